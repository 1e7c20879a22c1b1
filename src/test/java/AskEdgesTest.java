/** What there is none of to ask for, promises 8, 9, 11, 12 and 13: a method for each sentence. */
public final class AskEdgesTest {
    private static final int[] UNITS = {0, 1, 2, 3, 8, 9, 16, 17, 18, 19};
    private static final int[] STORES = {0, 1, 2, 3, 8, 9};
    private static final int[] FAR = {-2, Check.LEAST, Check.GREATEST};

    public static void main(String[] args) {
        noUnitIsNotBusy();
        passGoesFromZeroOn();
        passGoesUpToTenThousand();
        othersHaveNoNumber();
        linesOfWritersAlone();
        letterReachesLines();
        letterReachesPlaces();
        blocksOfTapesAndDisksAlone();
        blockReachesBlocks();
        blockReachesWords();
        Check.finish();
    }

    private static void noUnitIsNotBusy() {
        Check.sentence("Promise 8, false when there is none");
        Room room = new Room();
        room.card(1);
        for (int u : UNITS) {
            room.isBusy(u, false);
            room.operate(u, u == 16 ? Check.IN : Check.OUT, 0, 0, 0);
            room.isBusy(u, true);
        }
        for (int u : Check.ODD_UNITS) {
            room.isBusy(u, false);
            room.operate(u, Check.OUT, 0, 0, 5);
            room.isBusy(u, false);
        }
    }

    private static void passGoesFromZeroOn() {
        Check.sentence("Promise 9, by 0 to 10000 (the nearest): not below 0");
        Room room = new Room();
        room.pass(0, 0);
        room.pass(-1, 0);
        room.pass(Check.LEAST, 0);
        room.pass(1, 1);
        room.pass(-1, 1);
        room.pass(-10000, 1);
        room.pass(-10001, 1);
        room.pass(Check.LEAST, 1);
        room.pass(0, 1);
        room.operate(8, Check.OUT, 0, 0, 0);
        room.pass(400, 401);
        room.isBusy(8, false);
        room.pass(-1, 401);
        room.isBusy(8, false);
    }

    private static void passGoesUpToTenThousand() {
        Check.sentence("Promise 9, by 0 to 10000 (the nearest): not above 10000");
        Room room = new Room();
        room.pass(9999, 9999);
        room.pass(10000, 19999);
        room.pass(10001, 29999);
        room.pass(20000, 39999);
        room.pass(Check.GREATEST, 49999);
        room.pass(Check.GREATEST - 49999, 59999);
        room.pass(1, 60000);
    }

    private static void othersHaveNoNumber() {
        Check.sentence("Promise 11, NONE for others");
        Room room = new Room();
        for (int u : Check.DISKS) {
            room.unit(u, UnitRoom.NONE);
            room.operate(u, Check.OUT, 0, 5, 0);
            room.unit(u, UnitRoom.NONE);
        }
        for (int u : Check.ODD_UNITS) {
            room.unit(u, UnitRoom.NONE);
        }
        int[] told = {0, 1, 2, 3, 16, 17, 18, 19};
        for (int u : told) {
            room.unit(u, 0);
        }
    }

    private static void linesOfWritersAlone() {
        Check.sentence("Promise 12, of 17, 18, 19; NONE when there is none");
        Room room = new Room();
        room.set(0, Check.packed(1, 0, 0, 0, 0));
        room.card(1);
        for (int u : UNITS) {
            room.letter(u, 0, 0, UnitRoom.NONE);
            room.operate(u, u == 16 ? Check.IN : Check.OUT, 0, 0, 0);
            room.letter(u, 0, 0, u > 16 ? 'A' : UnitRoom.NONE);
        }
        for (int u : Check.ODD_UNITS) {
            room.letter(u, 0, 0, UnitRoom.NONE);
        }
    }

    private static void letterReachesLines() {
        Check.sentence("Promise 12, line k; NONE when there is none");
        for (int u : Check.WRITERS) {
            Room room = new Room();
            for (int lines = 0; lines < 4; lines++) {
                for (int k = 0; k < lines; k++) {
                    room.letter(u, k, 0, 'A' + k);
                }
                room.letter(u, -1, 0, UnitRoom.NONE);
                room.letter(u, lines, 0, UnitRoom.NONE);
                room.letter(u, lines + 1, 0, UnitRoom.NONE);
                room.letter(u, 299, 0, UnitRoom.NONE);
                room.letter(u, 300, 0, UnitRoom.NONE);
                for (int k : FAR) {
                    room.letter(u, k, 0, UnitRoom.NONE);
                }
                room.set(0, Check.packed(lines + 1, 0, 0, 0, 0));
                room.operate(u, Check.OUT, 0, 0, 0);
            }
        }
    }

    private static void letterReachesPlaces() {
        Check.sentence("Promise 12, letter i; NONE when there is none");
        int[] lengths = {80, 120, 70};
        for (int k = 0; k < 3; k++) {
            int u = Check.WRITERS[k];
            Room room = new Room();
            room.fill(0, 30, (1 << 30) - 1, true);
            room.set(lengths[k] / 5 - 1, Check.packed(1, 1, 1, 2, 3));
            room.operate(u, Check.OUT, 0, 0, 0);
            room.letter(u, 0, -1, UnitRoom.NONE);
            room.letter(u, 0, 0, '?');
            room.letter(u, 0, lengths[k] - 2, 'B');
            room.letter(u, 0, lengths[k] - 1, 'C');
            room.letter(u, 0, lengths[k], UnitRoom.NONE);
            room.letter(u, 0, 120, UnitRoom.NONE);
            for (int i : FAR) {
                room.letter(u, 0, i, UnitRoom.NONE);
            }
            room.operate(u, Check.OUT, 100, 0, 0);
            room.letter(u, 1, -1, UnitRoom.NONE);
            room.letter(u, 1, 0, UnitRoom.NONE);
        }
    }

    private static void blocksOfTapesAndDisksAlone() {
        Check.sentence("Promise 13, of a tape or disk; the greatest int when there is none");
        Room room = new Room();
        for (int u : STORES) {
            room.block(u, 0, 0, 0);
        }
        for (int u = 16; u <= 19; u++) {
            room.block(u, 0, 0, Check.NO_WORD);
        }
        for (int u : Check.ODD_UNITS) {
            room.block(u, 0, 0, Check.NO_WORD);
        }
    }

    private static void blockReachesBlocks() {
        Check.sentence("Promise 13, block b; the greatest int when there is none");
        for (int u : STORES) {
            Room room = new Room();
            room.set(0, 21);
            room.operate(u, Check.OUT, 0, 0, 0);
            room.operate(u, Check.IOC, u < 8 ? 62 : 0, 0, 0);
            room.set(0, 22);
            room.operate(u, Check.OUT, 0, 63, 0);
            room.block(u, -1, 0, Check.NO_WORD);
            room.block(u, 0, 0, 21);
            room.block(u, 1, 0, 0);
            room.block(u, 62, 0, 0);
            room.block(u, 63, 0, 22);
            room.block(u, 64, 0, Check.NO_WORD);
            for (int b : FAR) {
                room.block(u, b, 0, Check.NO_WORD);
            }
        }
    }

    /** Block 1 has not been written: it ends where a written one does. */
    private static void blockReachesWords() {
        Check.sentence("Promise 13, word i; the greatest int when there is none");
        for (int u : STORES) {
            Room room = new Room();
            room.fill(0, 200, 21, true);
            room.operate(u, Check.OUT, 50, 0, 0);
            for (int b = 0; b < 2; b++) {
                room.block(u, b, -1, Check.NO_WORD);
                room.block(u, b, 0, b == 0 ? 21 + 12345 * 50 : 0);
                room.block(u, b, 98, b == 0 ? 21 + 12345 * 148 : 0);
                room.block(u, b, 99, b == 0 ? 21 + 12345 * 149 : 0);
                room.block(u, b, 100, Check.NO_WORD);
                for (int i : FAR) {
                    room.block(u, b, i, Check.NO_WORD);
                }
            }
        }
    }
}
