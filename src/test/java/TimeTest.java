/** Promises 8 and 9, and the times of promise 7: what is done when, and in which order. */
public final class TimeTest {
    private static final int[] UNITS = {0, 1, 2, 3, 8, 9, 16, 17, 18, 19};
    private static final int[] TIMES = {500, 500, 500, 500, 400, 400, 1000, 1500, 750, 900};

    public static void main(String[] args) {
        passTakesTheNearest();
        unitsAreBusyForTheirTime();
        controlKeepsBusyToo();
        operationsWaitForTheirUnit();
        wordsComeWhenTheyAreDone();
        wordsAreReadAtTheBeginning();
        outTakesWhatLiesThereAtItsBeginning();
        laterEndsLieOnTop();
        ofOneEndTheLaterBeginningLiesOnTop();
        ofOneBeginningTheLaterCallLiesOnTop();
        waitingBringsTheOthersToo();
        Check.finish();
    }

    private static void passTakesTheNearest() {
        UnitRoom room = new UnitRoom();
        Check.due("pass(7)", room.pass(7), 7);
        Check.due("pass(-1)", room.pass(-1), 7);
        Check.due("pass(least)", room.pass(Integer.MIN_VALUE), 7);
        Check.due("pass(10000)", room.pass(10000), 10007);
        Check.due("pass(10001)", room.pass(10001), 20007);
        Check.due("pass(greatest)", room.pass(Integer.MAX_VALUE), 30007);
        Check.due("pass(0)", room.pass(0), 30007);
        Check.due("pass(9999)", room.pass(9999), 40006);
    }

    private static void unitsAreBusyForTheirTime() {
        for (int k = 0; k < UNITS.length; k++) {
            UnitRoom room = new UnitRoom();
            room.card();
            room.pass(3);
            room.operate(UNITS[k], UNITS[k] == 16 ? Check.IN : Check.OUT, 0, 0);
            for (int u : UNITS) {
                Check.due("isBusy(" + u + ")", room.isBusy(u), u == UNITS[k]);
            }
            Check.due("beginning takes no time", room.pass(0), 3);
            room.pass(TIMES[k] - 1);
            Check.due("isBusy just before", room.isBusy(UNITS[k]), true);
            room.pass(1);
            Check.due("isBusy at the end", room.isBusy(UNITS[k]), false);
        }
        UnitRoom room = new UnitRoom();
        for (int u : Check.ODD_UNITS) {
            Check.due("isBusy(" + u + ")", room.isBusy(u), false);
        }
    }

    private static void controlKeepsBusyToo() {
        for (int u : new int[] {0, 1, 2, 3, 8, 9, 18}) {
            UnitRoom room = new UnitRoom();
            int time = u < 4 ? 500 : u < 16 ? 400 : 750;
            Check.due("IOC", room.operate(u, Check.IOC, 0, 0), 0);
            room.pass(time - 1);
            Check.due("isBusy just before", room.isBusy(u), true);
            room.pass(1);
            Check.due("isBusy at the end", room.isBusy(u), false);
        }
    }

    private static void operationsWaitForTheirUnit() {
        UnitRoom room = new UnitRoom();
        room.operate(17, Check.OUT, 0, 0);
        room.pass(100);
        room.operate(17, Check.OUT, 0, 0);
        Check.due("time", room.pass(0), 1500);
        room.operate(19, Check.OUT, 0, 0);
        Check.due("another unit need not wait", room.pass(0), 1500);
        room.operate(17, Check.OUT, 0, 0);
        Check.due("time", room.pass(0), 3000);
        Check.due("isBusy(19)", room.isBusy(19), false);
        room.pass(5000);
        room.operate(17, Check.OUT, 0, 0);
        Check.due("a free unit need not wait", room.pass(0), 8000);
    }

    private static void wordsComeWhenTheyAreDone() {
        for (int u : new int[] {0, 3, 8, 9}) {
            UnitRoom room = new UnitRoom();
            room.fill(0, 100, 5);
            room.operate(u, Check.OUT, 0, 0);
            room.operate(u, Check.IOC, 0, 0);
            room.operate(u, Check.IN, 1000, 0);
            room.set(1000, 8, false);
            room.pass(u < 4 ? 499 : 399);
            Check.due("word just before", room.word(1000), 8);
            room.pass(1);
            Check.due("word at the end", room.word(1000), 5);
            room.set(1000, 9, false);
            room.pass(10000);
            Check.due("it comes once", room.word(1000), 9);
        }
    }

    private static void wordsAreReadAtTheBeginning() {
        UnitRoom room = new UnitRoom();
        room.fill(0, 100, 5);
        room.operate(8, Check.OUT, 0, 7);
        room.operate(8, Check.IN, 200, 7);
        room.set(0, 6, false);
        room.operate(8, Check.OUT, 0, 7);
        Check.due("block", room.block(8, 7, 0), 6);
        Check.due("word", room.word(200), 5);
    }

    private static void outTakesWhatLiesThereAtItsBeginning() {
        UnitRoom room = new UnitRoom();
        room.fill(0, 100, 5);
        room.operate(8, Check.OUT, 0, 7);
        room.operate(8, Check.IN, 200, 7);
        room.operate(9, Check.OUT, 200, 1);
        Check.due("block before the words came", room.block(9, 1, 0), 0);
        room.operate(8, Check.OUT, 200, 9);
        Check.due("block of a unit that waited for its own words", room.block(8, 9, 0), 5);
    }

    /** Block 1 of disks 8 and 9 and block 0 of tapes 0 and 1 hold the unit's number + 100; time is 1000. */
    private static UnitRoom marked() {
        UnitRoom room = new UnitRoom();
        for (int u : new int[] {0, 1, 8, 9}) {
            room.set(0, u + 100, false);
            room.operate(u, Check.OUT, 0, 1);
        }
        for (int u : new int[] {0, 1}) {
            room.operate(u, Check.IOC, 0, 0);
        }
        Check.due("time", room.pass(500), 1000);
        return room;
    }

    private static void laterEndsLieOnTop() {
        UnitRoom room = marked();
        room.operate(0, Check.IN, 300, 0);
        room.operate(8, Check.IN, 300, 1);
        room.pass(10000);
        Check.due("the tape ends later", room.word(300), 100);
        room = marked();
        room.operate(8, Check.IN, 300, 1);
        room.operate(0, Check.IN, 300, 0);
        room.pass(400);
        Check.due("the disk ends first", room.word(300), 108);
        room.pass(100);
        Check.due("then the tape", room.word(300), 100);
        room = marked();
        room.operate(0, Check.IN, 300, 0);
        room.pass(101);
        room.operate(8, Check.IN, 300, 1);
        room.pass(10000);
        Check.due("the disk ends later", room.word(300), 108);
        room = marked();
        Check.type(room, "A");
        room.card();
        room.operate(16, Check.IN, 300, 0);
        room.operate(0, Check.IN, 300, 0);
        room.operate(9, Check.IN, 300, 1);
        room.pass(10000);
        Check.due("the reader ends last", room.word(300), Check.packed(1, 0, 0, 0, 0));
    }

    private static void ofOneEndTheLaterBeginningLiesOnTop() {
        UnitRoom room = marked();
        room.operate(0, Check.IN, 300, 0);
        room.pass(100);
        room.operate(8, Check.IN, 300, 1);
        room.pass(399);
        Check.due("before the end", room.word(300), 0);
        room.pass(1);
        Check.due("the disk began later", room.word(300), 108);
        room = marked();
        Check.type(room, "A");
        room.card();
        room.operate(16, Check.IN, 300, 0);
        room.pass(500);
        room.operate(0, Check.IN, 300, 0);
        room.pass(500);
        Check.due("the tape began later", room.word(300), 100);
    }

    private static void ofOneBeginningTheLaterCallLiesOnTop() {
        int[][] pairs = {{0, 1}, {1, 0}, {8, 9}, {9, 8}};
        for (int[] pair : pairs) {
            UnitRoom room = marked();
            room.operate(pair[0], Check.IN, 300, 1);
            room.operate(pair[1], Check.IN, 300, 1);
            room.pass(500);
            Check.due("unit " + pair[1] + " was called later", room.word(300), 100 + pair[1]);
        }
    }

    private static void waitingBringsTheOthersToo() {
        UnitRoom room = marked();
        room.operate(8, Check.IN, 300, 1);
        room.operate(0, Check.IOC, 0, 0);
        room.operate(0, Check.OUT, 300, 0);
        Check.due("time", room.pass(0), 1500);
        Check.due("block", room.block(0, 0, 0), 108);
        Check.due("word", room.word(300), 108);
    }
}
