/** Which fault an operation has, promise 7 and its terms: a method for each sentence. */
public final class FaultEdgesTest {
    private static final int[] UNITS = {0, 1, 2, 3, 8, 9, 16, 17, 18, 19};
    private static final int[] WORDS = {100, 100, 100, 100, 100, 100, 16, 16, 24, 14};
    private static final int[] BEYOND_BLOCKS = {-1, 64, 65, Check.LEAST, Check.GREATEST};

    public static void main(String[] args) {
        operationsReachTwo();
        wordsReachTheEndOfMemory();
        controlHasNoWords();
        withoutUnitTheAddressCounts();
        unitsThatAreThere();
        readerDoesInAlone();
        writersDoNoIn();
        printerAloneDoesControl();
        printerControlWantsZero();
        tapeEndsAtSixtyFour();
        diskBlocksReachSixtyThree();
        diskControlHasABlockToo();
        diskControlWantsZero();
        readerHasNoMoreCards();
        theLowestIsTold();
        faultsChangeNothing();
        Check.finish();
    }

    private static void operationsReachTwo() {
        Check.sentence("Promise 7, 1 no such operation");
        int[] none = {-1, 3, -2, 4, Check.LEAST, Check.GREATEST};
        for (int operation : none) {
            Room room = new Room();
            for (int u : UNITS) {
                room.operate(u, operation, 0, 0, 1);
                room.operate(u, operation, 1, 1, 1);
            }
            for (int u : Check.ODD_UNITS) {
                room.operate(u, operation, 0, 0, 1);
            }
        }
        Room room = new Room();
        for (int operation = 0; operation <= 2; operation++) {
            room.operate(0, operation, 0, 0, 0);
            room.operate(8, operation, 0, 0, 0);
            room.operate(20, operation, 0, 0, 5);
        }
    }

    private static void wordsReachTheEndOfMemory() {
        Check.sentence("Promise 7, 2 (IN, OUT) the words at M would not lie in memory");
        for (int k = 0; k < UNITS.length; k++) {
            for (int operation = Check.IN; operation <= Check.OUT; operation++) {
                Room room = new Room();
                room.cards(3);
                int[] outside = {
                    -1, -WORDS[k], 4001 - WORDS[k], 3999, 4000, 4001, Check.LEAST, Check.GREATEST,
                    Check.GREATEST - WORDS[k] + 1, Check.GREATEST - WORDS[k] + 2
                };
                for (int m : outside) {
                    room.operate(UNITS[k], operation, m, 0, 2);
                }
                int otherwise = isAble(UNITS[k], operation) ? 0 : 5;
                room.operate(UNITS[k], operation, 4000 - WORDS[k], 0, otherwise);
                room.operate(UNITS[k], operation, 3999 - WORDS[k], 0, otherwise);
                room.operate(UNITS[k], operation, 0, 0, otherwise);
            }
        }
    }

    private static void controlHasNoWords() {
        Check.sentence("Promise 7, 2 (IN, OUT), so not IOC");
        int[] outside = {-1, 3901, 4000, Check.LEAST, Check.GREATEST};
        for (int m : outside) {
            Room room = new Room();
            for (int u : Check.TAPES) {
                room.operate(u, Check.IOC, m, 0, 0);
            }
            for (int u = 8; u <= 20; u++) {
                room.operate(u, Check.IOC, m, 0, 5);
            }
        }
    }

    private static void withoutUnitTheAddressCounts() {
        Check.sentence("Promise 7, 2 (where there is no such unit: M)");
        for (int operation = Check.IN; operation <= Check.OUT; operation++) {
            Room room = new Room();
            for (int u : Check.ODD_UNITS) {
                room.operate(u, operation, -1, 0, 2);
                room.operate(u, operation, 0, 0, 5);
                room.operate(u, operation, 1, 0, 5);
                room.operate(u, operation, 3998, 0, 5);
                room.operate(u, operation, 3999, 0, 5);
                room.operate(u, operation, 4000, 0, 2);
                room.operate(u, operation, Check.LEAST, 0, 2);
                room.operate(u, operation, Check.GREATEST, 0, 2);
            }
        }
    }

    private static void unitsThatAreThere() {
        Check.sentence("Promise 7, 5 no such unit");
        for (int operation = 0; operation <= 2; operation++) {
            Room room = new Room();
            for (int u : Check.ODD_UNITS) {
                room.operate(u, operation, 0, 0, 5);
                room.operate(u, operation, 0, 64, 5);
            }
            int[] there = {0, 3, 8, 9};
            for (int u : there) {
                room.operate(u, operation, 0, 0, 0);
            }
        }
        Room room = new Room();
        room.card(1);
        room.operate(16, Check.IN, 0, 0, 0);
        room.operate(17, Check.OUT, 0, 0, 0);
        room.operate(18, Check.OUT, 0, 0, 0);
        room.operate(19, Check.OUT, 0, 0, 0);
    }

    private static void readerDoesInAlone() {
        Check.sentence("Terms, Reader: IN alone");
        Room room = new Room();
        for (int cards = 0; cards < 2; cards++) {
            room.operate(16, Check.OUT, 0, 0, 5);
            room.operate(16, Check.IOC, 0, 0, 5);
            room.operate(16, Check.IOC, 1, 0, 5);
            room.card(cards + 1);
        }
        room.operate(16, Check.IN, 0, 0, 0);
        room.operate(16, Check.IN, 0, 64, 0);
    }

    private static void writersDoNoIn() {
        Check.sentence("Terms, Punch, printer, typewriter: OUT");
        Room room = new Room();
        for (int u : Check.WRITERS) {
            room.operate(u, Check.IN, 0, 0, 5);
            room.operate(u, Check.OUT, 0, 0, 0);
            room.operate(u, Check.OUT, 0, 64, 0);
            room.operate(u, Check.IN, 0, 0, 5);
        }
    }

    private static void printerAloneDoesControl() {
        Check.sentence("Terms, IOC: printer alone");
        Room room = new Room();
        room.operate(16, Check.IOC, 0, 0, 5);
        room.operate(17, Check.IOC, 0, 0, 5);
        room.operate(18, Check.IOC, 0, 0, 0);
        room.operate(19, Check.IOC, 0, 0, 5);
        room.unit(17, 0);
        room.unit(18, 1);
        room.unit(19, 0);
    }

    private static void printerControlWantsZero() {
        Check.sentence("Terms, IOC: printer alone, M 0");
        Room room = new Room();
        int[] others = {-1, 1, 12, Check.LEAST, Check.GREATEST};
        for (int m : others) {
            room.operate(18, Check.IOC, m, 0, 5);
        }
        room.unit(18, 0);
        room.operate(18, Check.IOC, 0, 0, 0);
        room.operate(18, Check.IOC, 0, 64, 0);
        room.unit(18, 2);
    }

    private static void tapeEndsAtSixtyFour() {
        Check.sentence("Terms, IN and OUT take it and go one on (at 64: fault 6)");
        for (int u : Check.TAPES) {
            for (int operation = Check.IN; operation <= Check.OUT; operation++) {
                Room room = new Room();
                room.operate(u, Check.IOC, 62, 0, 0);
                room.operate(u, operation, 0, 0, 0);
                room.unit(u, 63);
                room.operate(u, operation, 0, 0, 0);
                room.unit(u, 64);
                room.operate(u, Check.IN, 0, 0, 6);
                room.operate(u, Check.OUT, 0, 0, 6);
                room.unit(u, 64);
                room.operate(u, Check.IOC, 0, 0, 0);
                room.operate(u, operation, 0, 64, 0);
                room.unit(u, 1);
            }
        }
        Room room = new Room();
        for (int k = 1; k <= 64; k++) {
            room.operate(3, Check.OUT, 0, 0, 0);
            room.unit(3, k);
        }
        room.operate(3, Check.OUT, 0, 0, 6);
    }

    private static void diskBlocksReachSixtyThree() {
        Check.sentence("Terms, Disks: the block is X (0 .. 63, else fault 6)");
        for (int u : Check.DISKS) {
            for (int operation = Check.IN; operation <= Check.OUT; operation++) {
                Room room = new Room();
                for (int x : BEYOND_BLOCKS) {
                    room.operate(u, operation, 0, x, 6);
                }
                room.isBusy(u, false);
                int[] blocks = {0, 1, 62, 63};
                for (int x : blocks) {
                    room.operate(u, operation, 0, x, 0);
                }
            }
        }
    }

    private static void diskControlHasABlockToo() {
        Check.sentence("Terms, Disks: the block is X (0 .. 63, else fault 6), for IOC too");
        for (int u : Check.DISKS) {
            Room room = new Room();
            for (int x : BEYOND_BLOCKS) {
                room.operate(u, Check.IOC, 0, x, 6);
            }
            room.isBusy(u, false);
            int[] blocks = {0, 1, 62, 63};
            for (int x : blocks) {
                room.operate(u, Check.IOC, 0, x, 0);
            }
        }
    }

    private static void diskControlWantsZero() {
        Check.sentence("Terms, Disks: IOC: M must be 0, else fault 5");
        for (int u : Check.DISKS) {
            Room room = new Room();
            int[] others = {-1, 1, 64, Check.LEAST, Check.GREATEST};
            for (int m : others) {
                room.operate(u, Check.IOC, m, 0, 5);
                room.operate(u, Check.IOC, m, 63, 5);
            }
            room.isBusy(u, false);
            room.operate(u, Check.IOC, 0, 0, 0);
            room.isBusy(u, true);
        }
    }

    private static void readerHasNoMoreCards() {
        Check.sentence("Promise 7, 6 it has no more (card)");
        Room room = new Room();
        room.operate(16, Check.IN, 0, 0, 6);
        room.card(1);
        room.card(2);
        room.operate(16, Check.IN, 0, 0, 0);
        room.operate(16, Check.IN, 0, 0, 0);
        room.operate(16, Check.IN, 0, 0, 6);
        room.card(1);
        room.operate(16, Check.IN, 0, 0, 0);
        room.operate(16, Check.IN, 0, 0, 6);
    }

    private static void theLowestIsTold() {
        Check.sentence("Promise 7, the lowest one");
        Room room = new Room();
        room.operate(0, Check.IOC, 64, 0, 0);
        int[][] callsAndFaults = {
            // 1 and each other one
            {0, 3, 3901, 0, 1}, {20, 3, 0, 0, 1}, {8, -1, 0, 64, 1}, {20, 3, 4000, 0, 1},
            // 2 and 5
            {20, 1, 4000, 0, 2}, {16, 2, 3985, 0, 2}, {16, 2, 3984, 0, 5}, {17, 1, 3985, 0, 2},
            {17, 1, 3984, 0, 5}, {18, 1, 3977, 0, 2}, {18, 1, 3976, 0, 5}, {19, 1, 3987, 0, 2},
            {19, 1, 3986, 0, 5},
            // 2 and 6
            {0, 1, 3901, 0, 2}, {0, 2, 3901, 0, 2}, {0, 2, 3900, 0, 6}, {8, 1, -1, 64, 2},
            {8, 2, 3901, -1, 2}, {8, 2, 3900, -1, 6}, {16, 1, 3985, 0, 2}, {16, 1, 3984, 0, 6},
            // 5 and 6
            {8, 0, 1, 64, 5}, {9, 0, -1, -1, 5}, {9, 0, 0, -1, 6}, {16, 2, 0, 0, 5}, {16, 0, 0, 0, 5},
            {10, 1, 0, 64, 5}
        };
        for (int[] row : callsAndFaults) {
            room.operate(row[0], row[1], row[2], row[3], row[4]);
        }
    }

    /** The units are busy, so that a fault which lets time go on, or begins something, is seen. */
    private static void faultsChangeNothing() {
        Check.sentence("Promise 7, the fault that it has, changing nothing");
        int[][] callsAndFaults = {
            {8, 3, 0, 0, 1}, {0, -1, 0, 0, 1}, {18, 3, 0, 0, 1}, {8, 1, 3901, 0, 2}, {1, 2, -1, 0, 2},
            {16, 1, 3985, 0, 2}, {17, 2, 3985, 0, 2}, {18, 2, 4000, 0, 2}, {19, 2, -1, 0, 2},
            {20, 1, 0, 0, 5}, {4, 2, 0, 0, 5}, {16, 0, 0, 0, 5}, {16, 2, 0, 0, 5}, {17, 1, 0, 0, 5},
            {18, 1, 0, 0, 5}, {18, 0, 1, 0, 5}, {19, 0, 0, 0, 5}, {8, 0, 1, 0, 5}, {8, 0, 0, 64, 6},
            {8, 1, 0, 64, 6}, {9, 2, 0, -1, 6}, {0, 1, 0, 0, 6}, {0, 2, 0, 0, 6}
        };
        for (int[] row : callsAndFaults) {
            Room room = busyRoom();
            room.operate(row[0], row[1], row[2], row[3], row[4]);
            staysAsItWas(room);
        }
    }

    /** At time 400: disk 8 brings words to 0, tape 0 goes to its end, one of two cards is being read. */
    private static Room busyRoom() {
        Room room = new Room();
        room.fill(0, 100, 3, true);
        room.operate(8, Check.OUT, 0, 0, 0);
        room.operate(8, Check.IN, 0, 0, 0);
        room.operate(0, Check.IOC, 64, 0, 0);
        room.operate(1, Check.OUT, 0, 0, 0);
        room.feed(0x41414141, true);
        room.card(1);
        room.card(2);
        room.operate(16, Check.IN, 200, 0, 0);
        room.operate(18, Check.IOC, 0, 0, 0);
        room.set(0, 4);
        room.feed(0, true);
        return room;
    }

    private static void staysAsItWas(Room room) {
        room.pass(0, 400);
        room.end(21, false);
        room.end(20, true);
        int[] told = {64, 1, 0, 0, -1, -1, -1, -1, -1, -1, -1, -1, -1, -1, -1, -1, 1, 0, 1, 0};
        for (int u = 0; u < told.length; u++) {
            room.unit(u, told[u]);
            room.isBusy(u, u == 0 || u == 1 || u == 8 || u == 16 || u == 18);
        }
        room.block(1, 0, 0, 3);
        room.block(1, 1, 0, 0);
        room.block(8, 0, 0, 3);
        room.block(9, 0, 0, 0);
        room.line(18, 0, "\f");
        room.word(0, 4);
        room.pass(399, 799);
        room.word(0, 4);
        room.isBusy(8, true);
        room.pass(1, 800);
        room.word(0, 3);
        room.isBusy(8, false);
        room.pass(100, 900);
        room.isBusy(0, false);
        room.pass(249, 1149);
        room.isBusy(18, true);
        room.pass(1, 1150);
        room.isBusy(18, false);
        room.pass(249, 1399);
        room.word(200, 0);
        room.pass(1, 1400);
        room.word(200, Check.packed(1, 1, 1, 1, 1));
        room.isBusy(16, false);
    }

    private static boolean isAble(int unit, int operation) {
        return unit < 16 || (unit == 16) == (operation == Check.IN);
    }
}
