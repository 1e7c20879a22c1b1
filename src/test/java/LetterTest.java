/** Promises 7, 11 and 12 for the reader and the writers: letters and lines. */
public final class LetterTest {
    public static void main(String[] args) {
        cardIsWrittenAsItWasTyped();
        signsAreNotWritten();
        linesKeepWhatTheyTook();
        Check.finish();
    }

    private static void cardIsWrittenAsItWasTyped() {
        UnitRoom room = new UnitRoom();
        Check.type(room, "Hello, card {12}: don't [stop]!");
        room.card();
        room.operate(16, Check.IN, 300, 0);
        room.pass(1000);
        for (int u : Check.WRITERS) {
            Check.due("OUT", room.operate(u, Check.OUT, 300, 0), 0);
            Check.due("line of " + u, Check.line(room, u, 0), "HELLO, CARD  12 : DON'T [STOP");
            Check.due("unit(" + u + ")", room.unit(u), 1);
        }
    }

    private static void signsAreNotWritten() {
        UnitRoom room = new UnitRoom();
        room.set(0, 0, true);
        room.set(1, -Check.packed(8, 9, 55, 56, 63), false);
        room.set(2, 0, true);
        room.operate(18, Check.OUT, 0, 0);
        Check.due("line", Check.line(room, 18, 0), "     HI'??");
    }

    private static void linesKeepWhatTheyTook() {
        UnitRoom room = new UnitRoom();
        room.set(0, Check.packed(16, 13, 4, 0, 0), false);
        room.operate(17, Check.OUT, 0, 0);
        room.set(0, Check.packed(15, 5, 26, 0, 0), false);
        room.operate(17, Check.OUT, 0, 0);
        Check.due("line 0", Check.line(room, 17, 0), "OLD");
        Check.due("line 1", Check.line(room, 17, 1), "NEW");
    }
}
