/** Promises 7, 11 and 13 for tapes and disks. */
public final class BlockTest {
    public static void main(String[] args) {
        tapeGoesOn();
        tapeMoves();
        tapesAreApart();
        diskTakesItsBlock();
        Check.finish();
    }

    private static void tapeGoesOn() {
        for (int u : Check.TAPES) {
            UnitRoom room = new UnitRoom();
            room.fill(0, 200, 1);
            room.operate(u, Check.OUT, 0, 0);
            room.operate(u, Check.OUT, 100, 0);
            Check.due("unit", room.unit(u), 2);
            Check.due("block 0", room.block(u, 0, 0), 1);
            Check.due("block 0", room.block(u, 0, 99), 1 + 12345 * 99);
            Check.due("block 1", room.block(u, 1, 0), 1 + 12345 * 100);
            Check.due("block 1", room.block(u, 1, 99), 1 + 12345 * 199);
            Check.due("block 2", room.block(u, 2, 0), 0);
            room.operate(u, Check.IOC, -1, 0);
            room.operate(u, Check.IN, 1000, 0);
            Check.due("unit", room.unit(u), 2);
            room.pass(500);
            Check.due("word(1000)", room.word(1000), 1 + 12345 * 100);
            Check.due("word(1099)", room.word(1099), 1 + 12345 * 199);
            Check.due("word(1100)", room.word(1100), 0);
            Check.due("word(999)", room.word(999), 0);
        }
    }

    private static void tapeMoves() {
        UnitRoom room = new UnitRoom();
        int[][] movesAndPlaces = {
            {5, 5}, {-2, 3}, {60, 63}, {1, 64}, {1, 64}, {-64, 0}, {-1, 0}, {65, 64}, {-65, 0},
            {10, 10}, {Integer.MAX_VALUE, 64}, {Integer.MIN_VALUE, 0}, {7, 7}, {0, 0},
            {64, 64}, {0, 0}, {1, 1}, {Integer.MIN_VALUE, 0}
        };
        for (int[] pair : movesAndPlaces) {
            Check.due("IOC " + pair[0], room.operate(2, Check.IOC, pair[0], 0), 0);
            Check.due("unit after IOC " + pair[0], room.unit(2), pair[1]);
        }
        Check.due("unit(1)", room.unit(1), 0);
    }

    private static void tapesAreApart() {
        UnitRoom room = new UnitRoom();
        int[] units = {0, 1, 2, 3, 8, 9};
        for (int u : units) {
            room.set(0, u + 1, false);
            room.operate(u, Check.OUT, 0, 0);
        }
        for (int u : units) {
            Check.due("block of " + u, room.block(u, 0, 0), u + 1);
        }
    }

    private static void diskTakesItsBlock() {
        for (int u : Check.DISKS) {
            UnitRoom room = new UnitRoom();
            room.fill(50, 100, 9);
            Check.due("OUT 63", room.operate(u, Check.OUT, 50, 63), 0);
            Check.due("block 63", room.block(u, 63, 99), 9 + 12345 * 99);
            Check.due("block 62", room.block(u, 62, 99), 0);
            room.set(50, 1, false);
            Check.due("block keeps what it took", room.block(u, 63, 0), 9);
            room.operate(u, Check.IOC, 0, 5);
            room.operate(u, Check.IN, 3900, 63);
            room.pass(400);
            Check.due("word(3900)", room.word(3900), 9);
            Check.due("word(3999)", room.word(3999), 9 + 12345 * 99);
            room.operate(u, Check.OUT, 0, 63);
            Check.due("block written again", room.block(u, 63, 50), 1);
            Check.due("block written again", room.block(u, 63, 0), 0);
        }
    }
}
