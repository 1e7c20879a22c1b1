/** Promises 7, 11 and 13 for tapes and disks. */
public final class BlockTest {
    public static void main(String[] args) {
        tapeGoesOn();
        tapeMoves();
        tapeWritesItsLastBlock();
        tapesAreApart();
        diskTakesItsBlock();
        signsAreKept();
        blockOutside();
        standsNowhere();
        Check.finish();
    }

    private static void tapeGoesOn() {
        for (int u : Check.TAPES) {
            UnitRoom room = new UnitRoom();
            room.fill(0, 200, 1);
            room.operate(u, Check.OUT, 0, 0);
            room.operate(u, Check.OUT, 100, 0);
            Check.due("unit", room.unit(u), 2);
            Check.due("block 0", room.block(u, 0, 0), 1);
            Check.due("block 0", room.block(u, 0, 99), 1 + 12345 * 99);
            Check.due("block 1", room.block(u, 1, 0), 1 + 12345 * 100);
            Check.due("block 1", room.block(u, 1, 99), 1 + 12345 * 199);
            Check.due("block 2", room.block(u, 2, 0), 0);
            room.operate(u, Check.IOC, -1, 0);
            room.operate(u, Check.IN, 1000, 0);
            Check.due("unit", room.unit(u), 2);
            room.pass(500);
            Check.due("word(1000)", room.word(1000), 1 + 12345 * 100);
            Check.due("word(1099)", room.word(1099), 1 + 12345 * 199);
            Check.due("word(1100)", room.word(1100), 0);
            Check.due("word(999)", room.word(999), 0);
        }
    }

    private static void tapeMoves() {
        UnitRoom room = new UnitRoom();
        int[][] movesAndPlaces = {
            {5, 5}, {-2, 3}, {60, 63}, {1, 64}, {1, 64}, {-64, 0}, {-1, 0}, {65, 64}, {-65, 0},
            {10, 10}, {Integer.MAX_VALUE, 64}, {Integer.MIN_VALUE, 0}, {7, 7}, {0, 0},
            {64, 64}, {0, 0}, {1, 1}, {Integer.MIN_VALUE, 0}
        };
        for (int[] pair : movesAndPlaces) {
            Check.due("IOC " + pair[0], room.operate(2, Check.IOC, pair[0], 0), 0);
            Check.due("unit after IOC " + pair[0], room.unit(2), pair[1]);
        }
        Check.due("unit(1)", room.unit(1), 0);
    }

    private static void tapeWritesItsLastBlock() {
        UnitRoom room = new UnitRoom();
        room.fill(0, 100, 4);
        room.operate(3, Check.IOC, 63, 0);
        Check.due("OUT at 63", room.operate(3, Check.OUT, 0, 0), 0);
        Check.due("unit(3)", room.unit(3), 64);
        Check.due("OUT at 64", room.operate(3, Check.OUT, 0, 0), 6);
        Check.due("IN at 64", room.operate(3, Check.IN, 0, 0), 6);
        Check.due("block 63", room.block(3, 63, 0), 4);
    }

    private static void tapesAreApart() {
        UnitRoom room = new UnitRoom();
        int[] units = {0, 1, 2, 3, 8, 9};
        for (int u : units) {
            room.set(0, u + 1, false);
            room.operate(u, Check.OUT, 0, 0);
        }
        for (int u : units) {
            Check.due("block of " + u, room.block(u, 0, 0), u + 1);
        }
    }

    private static void diskTakesItsBlock() {
        for (int u : Check.DISKS) {
            UnitRoom room = new UnitRoom();
            room.fill(50, 100, 9);
            Check.due("OUT 63", room.operate(u, Check.OUT, 50, 63), 0);
            Check.due("block 63", room.block(u, 63, 99), 9 + 12345 * 99);
            Check.due("block 62", room.block(u, 62, 99), 0);
            room.set(50, 1, false);
            Check.due("block keeps what it took", room.block(u, 63, 0), 9);
            room.operate(u, Check.IOC, 0, 5);
            room.operate(u, Check.IN, 3900, 63);
            room.pass(400);
            Check.due("word(3900)", room.word(3900), 9);
            Check.due("word(3999)", room.word(3999), 9 + 12345 * 99);
            room.operate(u, Check.OUT, 0, 63);
            Check.due("block written again", room.block(u, 63, 50), 1);
            Check.due("block written again", room.block(u, 63, 0), 0);
        }
    }

    private static void signsAreKept() {
        UnitRoom room = new UnitRoom();
        room.set(0, 0, true);
        room.set(1, -77, false);
        room.operate(9, Check.OUT, 0, 1);
        Check.due("block -0", room.block(9, 1, 0), Check.MINUS_ZERO);
        Check.due("block -77", room.block(9, 1, 1), -77);
        room.operate(9, Check.IN, 200, 1);
        room.pass(400);
        Check.due("word -0", room.word(200), Check.MINUS_ZERO);
        Check.due("word -77", room.word(201), -77);
    }

    private static void blockOutside() {
        UnitRoom room = new UnitRoom();
        int[] units = {0, 1, 2, 3, 8, 9};
        for (int u : units) {
            Check.due("block -1", room.block(u, -1, 0), Check.NO_WORD);
            Check.due("block 64", room.block(u, 64, 0), Check.NO_WORD);
            Check.due("word -1", room.block(u, 0, -1), Check.NO_WORD);
            Check.due("word 100", room.block(u, 0, 100), Check.NO_WORD);
            Check.due("least", room.block(u, Integer.MIN_VALUE, 0), Check.NO_WORD);
            Check.due("greatest", room.block(u, 0, Integer.MAX_VALUE), Check.NO_WORD);
            room.operate(u, Check.OUT, 0, 0);
            Check.due("word -1", room.block(u, 0, -1), Check.NO_WORD);
            Check.due("word 100", room.block(u, 0, 100), Check.NO_WORD);
            Check.due("last", room.block(u, 63, 99), 0);
        }
        for (int u : Check.ODD_UNITS) {
            Check.due("block of " + u, room.block(u, 0, 0), Check.NO_WORD);
        }
        for (int u = 16; u <= 19; u++) {
            Check.due("block of " + u, room.block(u, 0, 0), Check.NO_WORD);
        }
    }

    private static void standsNowhere() {
        UnitRoom room = new UnitRoom();
        for (int u : Check.DISKS) {
            room.operate(u, Check.OUT, 0, 5);
            Check.due("unit of a disk", room.unit(u), UnitRoom.NONE);
        }
        for (int u : Check.ODD_UNITS) {
            Check.due("unit(" + u + ")", room.unit(u), UnitRoom.NONE);
        }
    }
}
