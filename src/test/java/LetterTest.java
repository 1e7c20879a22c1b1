/** Promises 7, 11 and 12 for the reader and the writers: letters and lines. */
public final class LetterTest {
    private static final String LETTERS =
            " ABCDEFGHI~JKLMNOPQR[#STUVWXYZ0123456789.,()+-*/=$<>@;:'";

    public static void main(String[] args) {
        everyByteIsWritten();
        everyLetterIsRead();
        linesAreAsLongAsTheirUnit();
        blanksAtTheEndAreLeftOut();
        signsAreNotWritten();
        formFeedIsALine();
        linesKeepWhatTheyTook();
        threeHundredLines();
        formFeedsCountAmongThem();
        letterOutside();
        Check.finish();
    }

    private static void everyByteIsWritten() {
        UnitRoom room = new UnitRoom();
        for (int code = 0; code < 64; code++) {
            room.set(code / 5, Check.packed(code, 0, 0, 0, 1), false);
            room.operate(19, Check.OUT, code / 5, 0);
            int want = code < 56 ? LETTERS.charAt(code) : '?';
            Check.due("byte " + code, room.letter(19, code, 0), want);
        }
    }

    private static void everyLetterIsRead() {
        UnitRoom room = new UnitRoom();
        byte[] bytes = new byte[80];
        for (int from = 0; from < 256; from += 80) {
            for (int k = 0; k < 80; k++) {
                bytes[k] = (byte) (from + k);
            }
            Check.typeBytes(room, bytes);
            room.card();
            room.set(0, 0, true);
            room.operate(16, Check.IN, 0, 0);
            room.pass(1000);
            for (int k = 0; k < 80; k++) {
                int word = room.word(k / 5);
                int code = (word >> (6 * (4 - k % 5))) & 63;
                Check.due("letter " + (from + k), code, codeDue((from + k) & 255));
            }
        }
    }

    private static int codeDue(int letter) {
        int great = letter >= 'a' && letter <= 'z' ? letter - 32 : letter;
        return Math.max(0, LETTERS.indexOf(great));
    }

    private static void linesAreAsLongAsTheirUnit() {
        int[] lengths = {80, 120, 70};
        for (int k = 0; k < 3; k++) {
            int u = Check.WRITERS[k];
            UnitRoom room = new UnitRoom();
            for (int address = 100; address < 140; address++) {
                room.set(address, Check.packed(1, 2, 3, 4, 5), false);
            }
            room.operate(u, Check.OUT, 100, 0);
            Check.due("line of " + u, Check.line(room, u, 0), "ABCDE".repeat(lengths[k] / 5));
            Check.due("unit", room.unit(u), 1);
            int start = 4000 - lengths[k] / 5;
            room.set(3999, 2, false);
            Check.due("OUT at the end", room.operate(u, Check.OUT, start, 0), 0);
            Check.due("the last letter", room.letter(u, 1, lengths[k] - 1), 'B');
            Check.due("behind it", room.letter(u, 1, lengths[k]), UnitRoom.NONE);
        }
    }

    private static void blanksAtTheEndAreLeftOut() {
        for (int u : Check.WRITERS) {
            UnitRoom room = new UnitRoom();
            room.operate(u, Check.OUT, 0, 0);
            Check.due("a blank line counts", room.unit(u), 1);
            Check.due("a blank line", room.letter(u, 0, 0), UnitRoom.NONE);
            room.set(1, Check.packed(0, 1, 0, 63, 0), false);
            room.operate(u, Check.OUT, 0, 0);
            Check.due("line 1", Check.line(room, u, 1), "      A ?");
            room.set(3, 1, false);
            room.operate(u, Check.OUT, 0, 0);
            Check.due("line 2", Check.line(room, u, 2), "      A ?          A");
        }
    }

    private static void signsAreNotWritten() {
        UnitRoom room = new UnitRoom();
        room.set(0, 0, true);
        room.set(1, -Check.packed(8, 9, 55, 56, 63), false);
        room.set(2, 0, true);
        room.operate(18, Check.OUT, 0, 0);
        Check.due("line", Check.line(room, 18, 0), "     HI'??");
    }

    private static void formFeedIsALine() {
        UnitRoom room = new UnitRoom();
        room.set(0, 1, false);
        Check.due("IOC", room.operate(18, Check.IOC, 0, 0), 0);
        room.operate(18, Check.OUT, 0, 0);
        Check.due("unit(18)", room.unit(18), 2);
        Check.due("line 0", Check.line(room, 18, 0), "\f");
        Check.due("line 1", Check.line(room, 18, 1), "    A");
        Check.due("unit(17)", room.unit(17), 0);
    }

    private static void linesKeepWhatTheyTook() {
        UnitRoom room = new UnitRoom();
        room.set(0, Check.packed(16, 13, 4, 0, 0), false);
        room.operate(17, Check.OUT, 0, 0);
        room.set(0, Check.packed(15, 5, 26, 0, 0), false);
        room.operate(17, Check.OUT, 0, 0);
        Check.due("line 0", Check.line(room, 17, 0), "OLD");
        Check.due("line 1", Check.line(room, 17, 1), "NEW");
    }

    private static void threeHundredLines() {
        for (int u : Check.WRITERS) {
            UnitRoom room = new UnitRoom();
            room.set(0, Check.packed(1, 0, 0, 0, 0), false);
            for (int k = 0; k < 299; k++) {
                room.operate(u, Check.OUT, 0, 0);
            }
            Check.due("unit", room.unit(u), 299);
            room.operate(u, Check.OUT, 0, 0);
            Check.due("unit", room.unit(u), 300);
            room.set(0, Check.packed(2, 0, 0, 0, 0), false);
            long before = room.pass(10000);
            Check.due("OUT of a lost line", room.operate(u, Check.OUT, 0, 0), 0);
            Check.due("a lost line keeps the unit busy", room.isBusy(u), true);
            Check.due("time", room.pass(0), before);
            Check.due("unit", room.unit(u), 300);
            Check.due("line 299", Check.line(room, u, 299), "A");
            Check.due("line 300", room.letter(u, 300, 0), UnitRoom.NONE);
        }
    }

    private static void formFeedsCountAmongThem() {
        UnitRoom room = new UnitRoom();
        for (int k = 0; k < 301; k++) {
            Check.due("IOC", room.operate(18, Check.IOC, 0, 0), 0);
        }
        Check.due("unit(18)", room.unit(18), 300);
        Check.due("letter", room.letter(18, 299, 0), 12);
        Check.due("letter", room.letter(18, 300, 0), UnitRoom.NONE);
    }

    private static void letterOutside() {
        UnitRoom room = new UnitRoom();
        room.fill(0, 30, (1 << 30) - 1);
        for (int u : Check.WRITERS) {
            room.operate(u, Check.OUT, 0, 0);
            int[] odd = {-1, 1, 300, Integer.MIN_VALUE, Integer.MAX_VALUE};
            for (int k : odd) {
                Check.due("line " + k, room.letter(u, k, 0), UnitRoom.NONE);
            }
            int[] places = {-1, 120, Integer.MIN_VALUE, Integer.MAX_VALUE};
            for (int i : places) {
                Check.due("letter " + i, room.letter(u, 0, i), UnitRoom.NONE);
            }
        }
        for (int u : Check.ODD_UNITS) {
            Check.due("letter of " + u, room.letter(u, 0, 0), UnitRoom.NONE);
        }
        for (int u : new int[] {0, 1, 2, 3, 8, 9, 16}) {
            Check.due("letter of " + u, room.letter(u, 0, 0), UnitRoom.NONE);
        }
    }
}
