/** Promise 1, and what the terms say of the beginning: a method for each sentence. */
public final class NewObjectTest {
    private static final int[] STORES = {0, 1, 2, 3, 8, 9};

    public static void main(String[] args) {
        memoryIsZero();
        timeIsZero();
        unitsAreFree();
        nothingIsWritten();
        blocksAreZero();
        objectsAreApart();
        Check.due("NONE", UnitRoom.NONE, -1);
        Check.finish();
    }

    /** A fresh object for each few calls: nothing is promised after the 512th. */
    private static void memoryIsZero() {
        Check.sentence("Promise 1, memory +0");
        for (int from = 0; from < 4000; from += 500) {
            Room room = new Room();
            for (int address = from; address < from + 500; address++) {
                room.word(address, 0);
            }
        }
    }

    private static void timeIsZero() {
        Check.sentence("Promise 1, time 0");
        Room room = new Room();
        room.pass(0, 0);
        room = new Room();
        room.pass(1, 1);
    }

    private static void unitsAreFree() {
        Check.sentence("Promise 1, units free");
        Room room = new Room();
        for (int u = -2; u < 24; u++) {
            room.isBusy(u, false);
        }
        room.card(1);
        int[] units = {0, 1, 2, 3, 8, 9, 16, 17, 18, 19};
        for (int u : units) {
            room.operate(u, u == 16 ? Check.IN : Check.OUT, 0, 0, 0);
            room.pass(0, 0);
        }
    }

    private static void nothingIsWritten() {
        Check.sentence("Promise 1, a new object has no lines, and its tapes stand at 0");
        Room room = new Room();
        for (int u : Check.TAPES) {
            room.unit(u, 0);
        }
        for (int u : Check.WRITERS) {
            room.unit(u, 0);
            room.letter(u, 0, 0, UnitRoom.NONE);
        }
    }

    private static void blocksAreZero() {
        Check.sentence("Terms, blocks of 100 words, 64 each, all +0 at first");
        for (int u : STORES) {
            for (int b = 0; b < 64; b++) {
                Room room = new Room();
                for (int i = 0; i < 100; i++) {
                    room.block(u, b, i, 0);
                }
            }
            Room room = new Room();
            room.fill(0, 100, 1, true);
            room.operate(u, Check.IN, 0, 0, 0);
            room.goOn(500);
            room.word(0, 0);
            room.word(99, 0);
        }
    }

    private static void objectsAreApart() {
        Check.sentence("Promise 1, what one object does another does not see");
        Room one = new Room();
        Room other = new Room();
        one.set(0, 5);
        one.operate(0, Check.OUT, 0, 0, 0);
        one.operate(18, Check.OUT, 0, 0, 0);
        one.feed(1, true);
        one.pass(3, 3);
        other.word(0, 0);
        other.block(0, 0, 0, 0);
        other.unit(0, 0);
        other.unit(18, 0);
        other.isBusy(18, false);
        other.end(1, false);
        other.pass(0, 0);
    }
}
