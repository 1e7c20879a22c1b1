/** Promises 2, 3 and 10: the tape and the cards that are made of it. */
public final class InputTest {
    private static final int ABCD = 0x41424344;
    private static final int BLANKS = 0x20202020;

    public static void main(String[] args) {
        bytesLieHighestFirst();
        feedGoesOnBehindTheCut();
        cardsComeInTheirOrder();
        readCardsMakeRoom();
        Check.finish();
    }

    private static void bytesLieHighestFirst() {
        UnitRoom room = new UnitRoom();
        Check.due("feed", room.feed(ABCD, 0x45464748, 0x494A4B4C, 0x4D4E4F50, 0x51525354), true);
        Check.due("card()", room.card(), 1);
        room.operate(16, Check.IN, 100, 0);
        room.pass(1000);
        Check.due("word(100)", room.word(100), Check.packed(1, 2, 3, 4, 5));
        Check.due("word(101)", room.word(101), Check.packed(6, 7, 8, 9, 11));
        Check.due("word(102)", room.word(102), Check.packed(12, 13, 14, 15, 16));
        Check.due("word(103)", room.word(103), Check.packed(17, 18, 19, 22, 23));
        Check.due("word(104)", room.word(104), 0);
    }

    private static void feedGoesOnBehindTheCut() {
        UnitRoom room = new UnitRoom();
        room.feed(ABCD, ABCD, ABCD, ABCD, ABCD);
        room.end(2);
        room.feed(0x58595A58, BLANKS, BLANKS, BLANKS, BLANKS);
        Check.due("end(22)", room.end(22), true);
        room.card();
        room.operate(16, Check.IN, 0, 0);
        room.pass(1000);
        Check.due("word(0)", room.word(0), Check.packed(1, 2, 27, 28, 29));
        Check.due("word(1)", room.word(1), Check.packed(27, 0, 0, 0, 0));
    }

    private static void cardsComeInTheirOrder() {
        UnitRoom room = new UnitRoom();
        String[] texts = {"FIRST", "NEXT ", "LAST "};
        for (String text : texts) {
            Check.type(room, text);
            room.card();
        }
        for (int k = 0; k < 3; k++) {
            Check.due("unit(16)", room.unit(16), 3 - k);
            Check.due("IN", room.operate(16, Check.IN, k * 16, 0), 0);
        }
        room.pass(1000);
        Check.due("word(0)", room.word(0), Check.packed(6, 9, 19, 22, 23));
        Check.due("word(16)", room.word(16), Check.packed(15, 5, 27, 23, 0));
        Check.due("word(32)", room.word(32), Check.packed(13, 1, 22, 23, 0));
        Check.due("IN without cards", room.operate(16, Check.IN, 0, 0), 6);
    }

    private static void readCardsMakeRoom() {
        UnitRoom room = new UnitRoom();
        for (int k = 1; k <= 100; k++) {
            room.card();
        }
        Check.due("IN", room.operate(16, Check.IN, 0, 0), 0);
        Check.due("unit(16)", room.unit(16), 99);
        Check.type(room, "Z");
        Check.due("card for the one read", room.card(), 100);
        Check.due("card beyond", room.card(), UnitRoom.NONE);
        for (int k = 0; k < 100; k++) {
            Check.due("IN " + k, room.operate(16, Check.IN, 0, 0), 0);
            Check.due("word(0) before the last card", room.word(0), 0);
        }
        Check.due("unit(16)", room.unit(16), 0);
        room.pass(1000);
        Check.due("word(0)", room.word(0), Check.packed(29, 0, 0, 0, 0));
        Check.due("time", room.pass(0), 101000);
    }
}
