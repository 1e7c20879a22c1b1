/** Promise 1. */
public final class NewObjectTest {
    public static void main(String[] args) {
        UnitRoom room = new UnitRoom();
        memoryIsZero();
        for (int u = -2; u < 24; u++) {
            Check.due("isBusy(" + u + ")", room.isBusy(u), false);
        }
        for (int u : Check.TAPES) {
            Check.due("unit(" + u + ")", room.unit(u), 0);
        }
        for (int u : Check.WRITERS) {
            Check.due("unit(" + u + ")", room.unit(u), 0);
            Check.due("letter", room.letter(u, 0, 0), UnitRoom.NONE);
        }
        Check.due("unit(16)", room.unit(16), 0);
        Check.due("IN without cards", room.operate(16, Check.IN, 0, 0), 6);
        Check.due("end(1)", room.end(1), false);
        Check.due("end(0)", room.end(0), true);
        Check.due("pass(0)", room.pass(0), 0);
        blocksAreZero();
        objectsAreApart();
        Check.due("NONE", UnitRoom.NONE, -1);
        Check.finish();
    }

    /** A fresh object for each few calls: nothing is promised after the 512th. */
    private static void memoryIsZero() {
        UnitRoom room = new UnitRoom();
        for (int address = 0; address < 4000; address++) {
            room = address % 500 == 0 ? new UnitRoom() : room;
            Check.due("word(" + address + ")", room.word(address), 0);
        }
    }

    private static void blocksAreZero() {
        int[] units = {0, 1, 2, 3, 8, 9};
        for (int u : units) {
            for (int b = 0; b < 64; b++) {
                UnitRoom room = new UnitRoom();
                for (int i = 0; i < 100; i++) {
                    Check.due("block(" + u + ", " + b + ", " + i + ")", room.block(u, b, i), 0);
                }
            }
        }
    }

    private static void objectsAreApart() {
        UnitRoom one = new UnitRoom();
        UnitRoom other = new UnitRoom();
        one.set(0, 5, false);
        one.operate(0, Check.OUT, 0, 0);
        one.operate(18, Check.OUT, 0, 0);
        one.feed(1, 2, 3, 4, 5);
        one.pass(3);
        Check.due("word of another", other.word(0), 0);
        Check.due("block of another", other.block(0, 0, 0), 0);
        Check.due("unit of another", other.unit(18), 0);
        Check.due("end of another", other.end(1), false);
        Check.due("pass of another", other.pass(0), 0);
    }
}
