/** Promise 7: which fault an operation has, and that a fault changes nothing. */
public final class FaultTest {
    private static final int[] UNITS = {0, 1, 2, 3, 8, 9, 16, 17, 18, 19};
    private static final int[] WORDS = {100, 100, 100, 100, 100, 100, 16, 16, 24, 14};
    private static final int[] FAR = {Integer.MIN_VALUE, -1, 4000, Integer.MAX_VALUE};

    public static void main(String[] args) {
        noSuchOperation();
        wordsOutsideMemory();
        noSuchUnit();
        unableUnits();
        noMore();
        theLowestIsTold();
        faultsChangeNothing();
        Check.finish();
    }

    private static void noSuchOperation() {
        UnitRoom room = new UnitRoom();
        int[] operations = {-1, 3, Integer.MIN_VALUE, Integer.MAX_VALUE};
        for (int operation : operations) {
            for (int u = -1; u < 22; u++) {
                fault(room, u, operation, 0, 0, 1);
                fault(room, u, operation, -1, -1, 1);
            }
        }
    }

    private static void wordsOutsideMemory() {
        UnitRoom room = new UnitRoom();
        for (int k = 0; k < UNITS.length; k++) {
            for (int operation = Check.IN; operation <= Check.OUT; operation++) {
                for (int m : FAR) {
                    fault(room, UNITS[k], operation, m, 0, 2);
                }
                fault(room, UNITS[k], operation, 4001 - WORDS[k], 0, 2);
            }
        }
        room.card();
        for (int k = 0; k < UNITS.length; k++) {
            int able = UNITS[k] == 16 ? Check.IN : Check.OUT;
            fault(room, UNITS[k], able, 4000 - WORDS[k], 0, 0);
        }
    }

    private static void noSuchUnit() {
        UnitRoom room = new UnitRoom();
        for (int u : Check.ODD_UNITS) {
            fault(room, u, Check.IOC, 0, 0, 5);
            fault(room, u, Check.IOC, -1, 0, 5);
            fault(room, u, Check.IN, 0, 0, 5);
            fault(room, u, Check.OUT, 3999, 64, 5);
            for (int m : FAR) {
                fault(room, u, Check.IN, m, 0, 2);
                fault(room, u, Check.OUT, m, 0, 2);
            }
        }
    }

    private static void unableUnits() {
        UnitRoom room = new UnitRoom();
        room.card();
        fault(room, 16, Check.OUT, 0, 0, 5);
        fault(room, 16, Check.IOC, 0, 0, 5);
        for (int u : Check.WRITERS) {
            fault(room, u, Check.IN, 0, 0, 5);
            fault(room, u, Check.IOC, 1, 0, 5);
            fault(room, u, Check.IOC, -1, 0, 5);
        }
        fault(room, 17, Check.IOC, 0, 0, 5);
        fault(room, 19, Check.IOC, 0, 0, 5);
        fault(room, 18, Check.IOC, 0, 99, 0);
        for (int u : Check.DISKS) {
            fault(room, u, Check.IOC, 1, 0, 5);
            fault(room, u, Check.IOC, -1, 63, 5);
        }
    }

    private static void noMore() {
        UnitRoom room = new UnitRoom();
        int[] outside = {-1, 64, Integer.MIN_VALUE, Integer.MAX_VALUE};
        for (int u : Check.DISKS) {
            for (int x : outside) {
                for (int operation = Check.IOC; operation <= Check.OUT; operation++) {
                    fault(room, u, operation, 0, x, 6);
                }
            }
            for (int operation = Check.IOC; operation <= Check.OUT; operation++) {
                fault(room, u, operation, 0, 0, 0);
                fault(room, u, operation, 0, 63, 0);
            }
        }
        for (int u : Check.TAPES) {
            fault(room, u, Check.IOC, 64, 0, 0);
            fault(room, u, Check.IN, 0, 0, 6);
            fault(room, u, Check.OUT, 0, 0, 6);
            fault(room, u, Check.IOC, -1, -1, 0);
            fault(room, u, Check.IN, 0, 64, 0);
            fault(room, u, Check.IN, 0, 0, 6);
        }
        fault(room, 16, Check.IN, 0, 0, 6);
    }

    private static void theLowestIsTold() {
        UnitRoom room = new UnitRoom();
        fault(room, 8, Check.IOC, 1, 64, 5);
        fault(room, 8, Check.OUT, 3901, 64, 2);
        fault(room, 16, Check.OUT, 3985, 0, 2);
        fault(room, 16, Check.OUT, 3984, 0, 5);
        fault(room, 16, Check.IN, 3985, 0, 2);
        fault(room, 17, Check.IN, 3985, 0, 2);
        fault(room, 18, Check.IN, 3977, 0, 2);
        fault(room, 19, Check.IN, 3987, 0, 2);
        fault(room, 19, Check.IN, 3986, 0, 5);
        room.operate(0, Check.IOC, 64, 0);
        fault(room, 0, Check.OUT, 3901, 0, 2);
        fault(room, 0, Check.OUT, 3900, 0, 6);
    }

    private static void faultsChangeNothing() {
        UnitRoom room = new UnitRoom();
        room.card();
        room.operate(8, Check.IN, 0, 0);
        room.operate(0, Check.IOC, 64, 0);
        room.operate(18, Check.OUT, 0, 0);
        fault(room, 8, Check.OUT, 0, 64, 6);
        fault(room, 8, Check.IOC, 3, 0, 5);
        fault(room, 0, Check.OUT, 0, 0, 6);
        fault(room, 18, Check.IN, 0, 0, 5);
        fault(room, 16, Check.OUT, 0, 0, 5);
        fault(room, 16, Check.IN, 4000, 0, 2);
        fault(room, 17, Check.OUT, 4000, 0, 2);
        fault(room, 17, 3, 0, 0, 1);
        Check.due("time", room.pass(0), 0);
        Check.due("isBusy(8)", room.isBusy(8), true);
        Check.due("isBusy(16)", room.isBusy(16), false);
        Check.due("isBusy(17)", room.isBusy(17), false);
        Check.due("unit(0)", room.unit(0), 64);
        Check.due("unit(16)", room.unit(16), 1);
        Check.due("unit(17)", room.unit(17), 0);
        Check.due("unit(18)", room.unit(18), 1);
    }

    private static void fault(UnitRoom room, int unit, int operation, int m, int x, int want) {
        String call = "operate(" + unit + ", " + operation + ", " + m + ", " + x + ")";
        Check.due(call, room.operate(unit, operation, m, x), want);
    }
}
