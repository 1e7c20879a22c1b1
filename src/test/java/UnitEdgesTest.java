/** Where tapes, letters and lines end, the terms of promise 7: a method for each sentence. */
public final class UnitEdgesTest {
    private static final String LETTERS =
            " ABCDEFGHI~JKLMNOPQR[#STUVWXYZ0123456789.,()+-*/=$<>@;:'";
    private static final int[] LINE_WORDS = {16, 24, 14};

    public static void main(String[] args) {
        tapeStandsAtZeroAtFirst();
        controlZeroGoesToTheBeginning();
        tapeStaysBetweenItsEnds();
        diskControlMovesNothing();
        blocksAreHundredWords();
        cardIsEightyLetters();
        linesAreAsLongAsTheirWords();
        formFeedIsALine();
        lettersReachFiftyFive();
        otherBytesAreQuestionMarks();
        smallLettersAreGreatOnes();
        whatIsNoneOfTheseIsSpace();
        blanksAtTheEndAreLeftOut();
        threeHundredLinesAtMost();
        formFeedsCountAmongThem();
        lostLinesAreNoFault();
        Check.finish();
    }

    private static void tapeStandsAtZeroAtFirst() {
        Check.sentence("Terms, tapes stand at a block (0 at first)");
        for (int u : Check.TAPES) {
            Room room = new Room();
            room.unit(u, 0);
            room.set(0, 5);
            room.operate(u, Check.OUT, 0, 7, 0);
            room.unit(u, 1);
            room.block(u, 0, 0, 5);
            room.block(u, 1, 0, 0);
            room.block(u, 7, 0, 0);
        }
    }

    private static void controlZeroGoesToTheBeginning() {
        Check.sentence("Terms, IOC: M 0 to the beginning");
        for (int u : Check.TAPES) {
            int[] places = {1, 32, 63, 64};
            for (int place : places) {
                Room room = new Room();
                room.operate(u, Check.IOC, place, 0, 0);
                room.unit(u, place);
                room.operate(u, Check.IOC, 0, place, 0);
                room.unit(u, 0);
                room.operate(u, Check.IOC, 0, 0, 0);
                room.unit(u, 0);
            }
        }
    }

    private static void tapeStaysBetweenItsEnds() {
        Check.sentence("Terms, so many blocks on or back (not beyond 0 and 64)");
        int[] places = {0, 1, 32, 63, 64};
        for (int u : Check.TAPES) {
            for (int place : places) {
                int[] moves = {
                    -1, 1, -place - 1, -place, 1 - place, 63 - place, 64 - place, 65 - place, -64, 64, -65, 65,
                    Check.LEAST, Check.LEAST + 1, Check.GREATEST, Check.GREATEST - 1
                };
                for (int move : moves) {
                    long sum = move == 0 ? 0 : (long) place + move;
                    Room room = new Room();
                    room.operate(u, Check.IOC, place, 0, 0);
                    room.operate(u, Check.IOC, move, 0, 0);
                    room.unit(u, sum < 0 ? 0 : sum > 64 ? 64 : (int) sum);
                }
            }
        }
    }

    private static void diskControlMovesNothing() {
        Check.sentence("Terms, Disks: IOC, which moves nothing");
        for (int u : Check.DISKS) {
            Room room = new Room();
            room.fill(0, 100, 1, true);
            room.operate(u, Check.OUT, 0, 63, 0);
            room.set(0, 9);
            room.operate(u, Check.IOC, 0, 63, 0);
            room.block(u, 63, 0, 1);
            room.goOn(400);
            room.word(0, 9);
            room.operate(u, Check.IOC, 0, 0, 0);
            room.goOn(400);
            room.word(0, 9);
            room.block(u, 0, 0, 0);
        }
    }

    private static void blocksAreHundredWords() {
        Check.sentence("Terms, blocks of 100 words, 64 each");
        int[] units = {0, 1, 2, 3, 8, 9};
        for (int u : units) {
            Room room = new Room();
            room.fill(1000, 102, 2, true);
            room.operate(u, Check.IOC, u < 8 ? 63 : 0, 63, 0);
            room.operate(u, Check.OUT, 1001, 63, 0);
            room.block(u, 63, 0, 2 + 12345);
            room.block(u, 63, 99, 2 + 12345 * 100);
            room.block(u, 62, 99, 0);
            room.operate(u, Check.IOC, u < 8 ? -1 : 0, 0, 0);
            room.operate(u, Check.IN, 3900, 63, 0);
            room.goOn(500);
            room.word(3899, 0);
            room.word(3900, 2 + 12345);
            room.word(3999, 2 + 12345 * 100);
            room.operate(u, Check.IOC, u < 8 ? -1 : 0, 0, 0);
            room.operate(u, Check.IN, 500, 63, 0);
            room.set(600, 8);
            room.goOn(500);
            room.word(499, 0);
            room.word(599, 2 + 12345 * 100);
            room.word(600, 8);
        }
    }

    private static void cardIsEightyLetters() {
        Check.sentence("Terms, a card's 80 bytes as letters");
        Room room = new Room();
        room.type("B" + "A".repeat(78) + "C");
        room.card(1);
        room.set(99, 6);
        room.set(116, 7);
        room.operate(16, Check.IN, 100, 0, 0);
        room.goOn(1000);
        room.word(99, 6);
        room.word(100, Check.packed(2, 1, 1, 1, 1));
        room.word(115, Check.packed(1, 1, 1, 1, 3));
        room.word(116, 7);
    }

    private static void linesAreAsLongAsTheirWords() {
        Check.sentence("Terms, punch (16 words), printer (24 words), typewriter (14 words): a line of letters");
        for (int k = 0; k < 3; k++) {
            int u = Check.WRITERS[k];
            int letters = 5 * LINE_WORDS[k];
            Room room = new Room();
            for (int address = 0; address < 30; address++) {
                room.set(address, Check.packed(1, 2, 3, 4, 5));
            }
            room.operate(u, Check.OUT, 1, 0, 0);
            room.line(u, 0, "ABCDE".repeat(LINE_WORDS[k]));
            room.set(3999, Check.packed(0, 0, 0, 0, 6));
            room.operate(u, Check.OUT, 4000 - LINE_WORDS[k], 0, 0);
            room.letter(u, 1, letters - 2, ' ');
            room.letter(u, 1, letters - 1, 'F');
            room.letter(u, 1, letters, UnitRoom.NONE);
        }
    }

    private static void formFeedIsALine() {
        Check.sentence("Terms, a line that is a form feed (letter 12)");
        Room room = new Room();
        room.set(0, Check.packed(1, 0, 0, 0, 0));
        room.operate(18, Check.OUT, 0, 0, 0);
        room.operate(18, Check.IOC, 0, 0, 0);
        room.operate(18, Check.OUT, 0, 0, 0);
        room.unit(18, 3);
        room.line(18, 0, "A");
        room.letter(18, 1, 0, 12);
        room.line(18, 1, "\f");
        room.line(18, 2, "A");
    }

    private static void lettersReachFiftyFive() {
        Check.sentence("Terms, bytes 0 to 55 are, in this order");
        Check.due("their number", LETTERS.length(), 56);
        for (int u : Check.WRITERS) {
            Room room = new Room();
            for (int code = 0; code <= 55; code++) {
                room.set(0, Check.packed(1, code, 0, 0, 1));
                room.operate(u, Check.OUT, 0, 0, 0);
                room.letter(u, code, 1, LETTERS.charAt(code));
            }
        }
        Room room = new Room();
        room.type(LETTERS);
        room.card(1);
        room.operate(16, Check.IN, 0, 0, 0);
        room.goOn(1000);
        for (int k = 0; k < 11; k++) {
            room.word(k, Check.packed(5 * k, 5 * k + 1, 5 * k + 2, 5 * k + 3, 5 * k + 4));
        }
        room.word(11, Check.packed(55, 0, 0, 0, 0));
    }

    private static void otherBytesAreQuestionMarks() {
        Check.sentence("Terms, other bytes are written ?");
        for (int u : Check.WRITERS) {
            Room room = new Room();
            for (int code = 54; code <= 63; code++) {
                room.set(0, Check.packed(0, 0, 0, 0, code));
                room.operate(u, Check.OUT, 0, 0, 0);
                room.line(u, code - 54, "    " + (code == 54 ? ':' : code == 55 ? '\'' : '?'));
            }
            room.set(0, -Check.packed(63, 56, 55, 0, 63));
            room.operate(u, Check.OUT, 0, 0, 0);
            room.line(u, 10, "??' ?");
        }
    }

    private static void smallLettersAreGreatOnes() {
        Check.sentence("Terms, small letters are read as great ones");
        isRead("abcde", Check.packed(1, 2, 3, 4, 5));
        isRead("fghij", Check.packed(6, 7, 8, 9, 11));
        isRead("klmno", Check.packed(12, 13, 14, 15, 16));
        isRead("pqrst", Check.packed(17, 18, 19, 22, 23));
        isRead("uvwxy", Check.packed(24, 25, 26, 27, 28));
        isRead("zZaA@", Check.packed(29, 29, 1, 1, 52));
        isRead("`a{z|", Check.packed(0, 1, 0, 29, 0));
    }

    private static void whatIsNoneOfTheseIsSpace() {
        Check.sentence("Terms, what is none of these is read as space");
        isRead("?A!\"%", Check.packed(0, 1, 0, 0, 0));
        isRead("&A\\]^", Check.packed(0, 1, 0, 0, 0));
        isRead("_A`{|", Check.packed(0, 1, 0, 0, 0));
        isRead("}A~\u007F\u0080", Check.packed(0, 1, 10, 0, 0));
        isRead("\u00FFA\u0000\u0001\f", Check.packed(0, 1, 0, 0, 0));
        isRead("\u00C1A\u00E1\u00A0\n", Check.packed(0, 1, 0, 0, 0));
        for (int from = 0; from < 256; from += 80) {
            everyByteIsRead(from);
        }
    }

    private static void everyByteIsRead(int from) {
        byte[] bytes = new byte[80];
        for (int k = 0; k < 80; k++) {
            bytes[k] = (byte) (from + k);
        }
        Room room = new Room();
        room.typeBytes(bytes);
        room.card(1);
        room.operate(16, Check.IN, 0, 0, 0);
        room.goOn(1000);
        for (int k = 0; k < 80; k += 5) {
            int first = from + k;
            room.word(k / 5, Check.packed(codeDue(first), codeDue(first + 1), codeDue(first + 2),
                    codeDue(first + 3), codeDue(first + 4)));
        }
    }

    private static int codeDue(int number) {
        int letter = number & 255;
        int great = letter >= 'a' && letter <= 'z' ? letter - 32 : letter;
        return Math.max(0, LETTERS.indexOf(great));
    }

    private static void isRead(String letters, int want) {
        Room room = new Room();
        room.type(letters);
        room.card(1);
        room.operate(16, Check.IN, 0, 0, 0);
        room.goOn(1000);
        room.word(0, want);
        room.word(1, 0);
    }

    private static void blanksAtTheEndAreLeftOut() {
        Check.sentence("Terms, blanks at a line's end are left out");
        for (int k = 0; k < 3; k++) {
            int u = Check.WRITERS[k];
            Room room = new Room();
            room.operate(u, Check.OUT, 0, 0, 0);
            room.unit(u, 1);
            room.line(u, 0, "");
            room.set(0, 0, true, true);
            room.operate(u, Check.OUT, 0, 0, 0);
            room.unit(u, 2);
            room.line(u, 1, "");
            room.set(0, Check.packed(1, 0, 0, 0, 0));
            room.operate(u, Check.OUT, 0, 0, 0);
            room.line(u, 2, "A");
            room.set(0, Check.packed(0, 0, 2, 0, 3));
            room.set(1, Check.packed(0, 0, 0, 4, 0));
            room.operate(u, Check.OUT, 0, 0, 0);
            room.line(u, 3, "  B C   D");
            room.set(1, Check.packed(0, 0, 0, 0, 56));
            room.operate(u, Check.OUT, 0, 0, 0);
            room.line(u, 4, "  B C    ?");
            int last = LINE_WORDS[k] - 1;
            room.set(last, Check.packed(0, 0, 0, 0, 1));
            room.operate(u, Check.OUT, 0, 0, 0);
            room.letter(u, 5, 5 * last + 4, 'A');
            room.letter(u, 5, 5 * last + 5, UnitRoom.NONE);
            room.set(last, Check.packed(0, 0, 0, 1, 0));
            room.operate(u, Check.OUT, 0, 0, 0);
            room.letter(u, 6, 5 * last + 3, 'A');
            room.letter(u, 6, 5 * last + 4, UnitRoom.NONE);
        }
    }

    private static void threeHundredLinesAtMost() {
        Check.sentence("Terms, a writer writes 300 lines at most, later ones are lost");
        for (int u : Check.WRITERS) {
            Room room = new Room();
            room.set(0, Check.packed(1, 0, 0, 0, 0));
            for (int k = 0; k < 299; k++) {
                room.operate(u, Check.OUT, 0, 0, 0);
            }
            room.unit(u, 299);
            room.letter(u, 298, 0, 'A');
            room.letter(u, 299, 0, UnitRoom.NONE);
            room.set(0, Check.packed(2, 0, 0, 0, 0));
            room.operate(u, Check.OUT, 0, 0, 0);
            room.unit(u, 300);
            room.letter(u, 299, 0, 'B');
            room.set(0, Check.packed(3, 0, 0, 0, 0));
            for (int k = 0; k < 3; k++) {
                room.operate(u, Check.OUT, 0, 0, 0);
                room.unit(u, 300);
            }
            room.line(u, 0, "A");
            room.line(u, 298, "A");
            room.line(u, 299, "B");
            room.line(u, 300, "");
            room.line(u, 301, "");
            for (int other : Check.WRITERS) {
                room.unit(other, other == u ? 300 : 0);
            }
        }
    }

    private static void formFeedsCountAmongThem() {
        Check.sentence("Terms, a writer writes 300 lines at most: form feeds are lines too");
        Room room = new Room();
        room.set(0, Check.packed(1, 0, 0, 0, 0));
        for (int k = 0; k < 298; k++) {
            room.operate(18, Check.OUT, 0, 0, 0);
        }
        for (int k = 299; k <= 303; k++) {
            room.operate(18, Check.IOC, 0, 0, 0);
            room.unit(18, Math.min(300, k));
        }
        room.operate(18, Check.OUT, 0, 0, 0);
        room.unit(18, 300);
        room.line(18, 297, "A");
        room.line(18, 298, "\f");
        room.line(18, 299, "\f");
        room.line(18, 300, "");
    }

    private static void lostLinesAreNoFault() {
        Check.sentence("Terms, later ones are lost: the unit is busy with them all the same");
        int[] times = {1500, 750, 900};
        for (int k = 0; k < 3; k++) {
            int u = Check.WRITERS[k];
            Room room = new Room();
            for (int line = 0; line < 300; line++) {
                room.operate(u, Check.OUT, 0, 0, 0);
            }
            room.pass(0, 299L * times[k]);
            room.operate(u, Check.OUT, 0, 0, 0);
            room.pass(0, 300L * times[k]);
            room.isBusy(u, true);
            room.operate(u, Check.OUT, 0, 0, 0);
            room.pass(times[k] - 1, 302L * times[k] - 1);
            room.isBusy(u, true);
            room.pass(1, 302L * times[k]);
            room.isBusy(u, false);
        }
    }
}
