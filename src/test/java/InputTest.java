/** Promises 2, 3 and 10: the tape and the cards that are made of it. */
public final class InputTest {
    private static final int ABCD = 0x41424344;
    private static final int BLANKS = 0x20202020;

    public static void main(String[] args) {
        bytesLieHighestFirst();
        tapeHoldsFourHundred();
        endCutsTheTape();
        feedGoesOnBehindTheCut();
        cardTakesEightyBytes();
        cardEmptiesTheTape();
        cardsComeInTheirOrder();
        hundredCardsAreAll();
        refusedCardEmptiesTheTape();
        readCardsMakeRoom();
        Check.finish();
    }

    private static void bytesLieHighestFirst() {
        UnitRoom room = new UnitRoom();
        Check.due("feed", room.feed(ABCD, 0x45464748, 0x494A4B4C, 0x4D4E4F50, 0x51525354), true);
        Check.due("card()", room.card(), 1);
        room.operate(16, Check.IN, 100, 0);
        room.pass(1000);
        Check.due("word(100)", room.word(100), Check.packed(1, 2, 3, 4, 5));
        Check.due("word(101)", room.word(101), Check.packed(6, 7, 8, 9, 11));
        Check.due("word(102)", room.word(102), Check.packed(12, 13, 14, 15, 16));
        Check.due("word(103)", room.word(103), Check.packed(17, 18, 19, 22, 23));
        Check.due("word(104)", room.word(104), 0);
    }

    private static void tapeHoldsFourHundred() {
        UnitRoom room = new UnitRoom();
        for (int k = 0; k < 20; k++) {
            Check.due("feed " + k, room.feed(k, k, k, k, k), true);
        }
        Check.due("feed beyond 400", room.feed(0, 0, 0, 0, 0), false);
        Check.due("end(401)", room.end(401), false);
        Check.due("end(400)", room.end(400), true);
        Check.due("end(381)", room.end(381), true);
        Check.due("feed at 381", room.feed(0, 0, 0, 0, 0), false);
        Check.due("end(382) after a refused feed", room.end(382), false);
        Check.due("end(380)", room.end(380), true);
        Check.due("feed at 380", room.feed(0, 0, 0, 0, 0), true);
        Check.due("end(400)", room.end(400), true);
    }

    private static void endCutsTheTape() {
        UnitRoom room = new UnitRoom();
        room.feed(ABCD, ABCD, ABCD, ABCD, ABCD);
        Check.due("end(21)", room.end(21), false);
        Check.due("end(-1)", room.end(-1), false);
        Check.due("end(least)", room.end(Integer.MIN_VALUE), false);
        Check.due("end(greatest)", room.end(Integer.MAX_VALUE), false);
        Check.due("end(20)", room.end(20), true);
        Check.due("end(3)", room.end(3), true);
        Check.due("end(4) after end(3)", room.end(4), false);
        room.card();
        room.operate(16, Check.IN, 0, 0);
        room.pass(1000);
        Check.due("word(0)", room.word(0), Check.packed(1, 2, 3, 0, 0));
        Check.due("word(1)", room.word(1), 0);
    }

    private static void feedGoesOnBehindTheCut() {
        UnitRoom room = new UnitRoom();
        room.feed(ABCD, ABCD, ABCD, ABCD, ABCD);
        room.end(2);
        room.feed(0x58595A58, BLANKS, BLANKS, BLANKS, BLANKS);
        Check.due("end(22)", room.end(22), true);
        room.card();
        room.operate(16, Check.IN, 0, 0);
        room.pass(1000);
        Check.due("word(0)", room.word(0), Check.packed(1, 2, 27, 28, 29));
        Check.due("word(1)", room.word(1), Check.packed(27, 0, 0, 0, 0));
    }

    private static void cardTakesEightyBytes() {
        UnitRoom room = new UnitRoom();
        Check.type(room, "A".repeat(79) + "BC" + "D".repeat(19));
        Check.due("card()", room.card(), 1);
        Check.due("unit(16)", room.unit(16), 1);
        room.operate(16, Check.IN, 0, 0);
        room.pass(1000);
        Check.due("word(15)", room.word(15), Check.packed(1, 1, 1, 1, 2));
        Check.due("word(16)", room.word(16), 0);
    }

    private static void cardEmptiesTheTape() {
        UnitRoom room = new UnitRoom();
        room.feed(ABCD, ABCD, ABCD, ABCD, ABCD);
        room.card();
        Check.due("end(1) after card", room.end(1), false);
        room.set(0, 77, false);
        Check.due("card of an empty tape", room.card(), 2);
        room.operate(16, Check.IN, 100, 0);
        Check.due("unit(16)", room.unit(16), 1);
        room.operate(16, Check.IN, 0, 0);
        room.pass(1000);
        Check.due("word(0) from a blank card", room.word(0), 0);
        Check.due("word(100)", room.word(100), Check.packed(1, 2, 3, 4, 1));
    }

    private static void cardsComeInTheirOrder() {
        UnitRoom room = new UnitRoom();
        String[] texts = {"FIRST", "NEXT ", "LAST "};
        for (String text : texts) {
            Check.type(room, text);
            room.card();
        }
        for (int k = 0; k < 3; k++) {
            Check.due("unit(16)", room.unit(16), 3 - k);
            Check.due("IN", room.operate(16, Check.IN, k * 16, 0), 0);
        }
        room.pass(1000);
        Check.due("word(0)", room.word(0), Check.packed(6, 9, 19, 22, 23));
        Check.due("word(16)", room.word(16), Check.packed(15, 5, 27, 23, 0));
        Check.due("word(32)", room.word(32), Check.packed(13, 1, 22, 23, 0));
        Check.due("IN without cards", room.operate(16, Check.IN, 0, 0), 6);
    }

    private static void hundredCardsAreAll() {
        UnitRoom room = new UnitRoom();
        for (int k = 1; k <= 100; k++) {
            Check.due("card " + k, room.card(), k);
        }
        room.feed(ABCD, ABCD, ABCD, ABCD, ABCD);
        Check.due("card 101", room.card(), UnitRoom.NONE);
        Check.due("unit(16)", room.unit(16), 100);
    }

    private static void refusedCardEmptiesTheTape() {
        UnitRoom room = new UnitRoom();
        for (int k = 1; k <= 100; k++) {
            room.card();
        }
        for (int k = 0; k < 20; k++) {
            room.feed(ABCD, ABCD, ABCD, ABCD, ABCD);
        }
        Check.due("card 101", room.card(), UnitRoom.NONE);
        Check.due("end(1) after a refused card", room.end(1), false);
        Check.due("end(0) after a refused card", room.end(0), true);
        Check.due("card of the empty tape", room.card(), UnitRoom.NONE);
        Check.due("feed", room.feed(0x5A5A5A5A, BLANKS, BLANKS, BLANKS, BLANKS), true);
        Check.due("end(21)", room.end(21), false);
        Check.due("end(20)", room.end(20), true);
        room.operate(16, Check.IN, 0, 0);
        Check.due("card for the one read", room.card(), 100);
        for (int k = 0; k < 100; k++) {
            Check.due("IN " + k, room.operate(16, Check.IN, 0, 0), 0);
        }
        Check.due("IN without cards", room.operate(16, Check.IN, 0, 0), 6);
        room.pass(1000);
        Check.due("word(0) of the last card", room.word(0), Check.packed(29, 29, 29, 29, 0));
        Check.due("word(4) of the last card", room.word(4), 0);
    }

    private static void readCardsMakeRoom() {
        UnitRoom room = new UnitRoom();
        for (int k = 1; k <= 100; k++) {
            room.card();
        }
        Check.due("IN", room.operate(16, Check.IN, 0, 0), 0);
        Check.due("unit(16)", room.unit(16), 99);
        Check.type(room, "Z");
        Check.due("card for the one read", room.card(), 100);
        Check.due("card beyond", room.card(), UnitRoom.NONE);
        for (int k = 0; k < 100; k++) {
            Check.due("IN " + k, room.operate(16, Check.IN, 0, 0), 0);
            Check.due("word(0) before the last card", room.word(0), 0);
        }
        Check.due("unit(16)", room.unit(16), 0);
        room.pass(1000);
        Check.due("word(0)", room.word(0), Check.packed(29, 0, 0, 0, 0));
        Check.due("time", room.pass(0), 101000);
    }
}
