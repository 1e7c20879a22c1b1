/** What is done when, and in which order, the terms of promises 7 and 8: a method for each sentence. */
public final class TimeTest {
    private static final int[] UNITS = {0, 1, 2, 3, 8, 9, 16, 17, 18, 19};
    private static final int[] TIMES = {500, 500, 500, 500, 400, 400, 1000, 1500, 750, 900};

    public static void main(String[] args) {
        unitsAreBusyForTheirTime();
        controlKeepsBusyToo();
        operationsWaitForTheirUnit();
        operationsWaitTillTheEndAlone();
        wordsComeWhenTheyAreDone();
        cardsComeWhenTheyAreDone();
        wordsAreReadAtTheBeginning();
        outTakesWhatLiesThereAtItsBeginning();
        doneWordsLieAheadOfSet();
        doneWordsLieAheadOfFill();
        doneWordsLieAheadOfOut();
        laterEndsLieOnTop();
        ofOneEndTheLaterBeginningLiesOnTop();
        ofOneBeginningTheLaterCallLiesOnTop();
        waitingBringsTheOthersToo();
        Check.finish();
    }

    private static void unitsAreBusyForTheirTime() {
        Check.sentence("Terms, the unit is busy for: tapes 500, disks 400, reader 1000, punch 1500, printer 750, typewriter 900");
        for (int k = 0; k < UNITS.length; k++) {
            UnitRoom room = new UnitRoom();
            room.card();
            room.pass(3);
            room.operate(UNITS[k], UNITS[k] == 16 ? Check.IN : Check.OUT, 0, 0);
            for (int u : UNITS) {
                Check.due("isBusy(" + u + ")", room.isBusy(u), u == UNITS[k]);
            }
            Check.due("beginning takes no time", room.pass(0), 3);
            room.pass(TIMES[k] - 1);
            Check.due("isBusy just before", room.isBusy(UNITS[k]), true);
            room.pass(1);
            Check.due("isBusy at the end", room.isBusy(UNITS[k]), false);
        }
    }

    private static void controlKeepsBusyToo() {
        Check.sentence("Terms, an operation (IOC too): the unit is busy for its time");
        for (int u : new int[] {0, 1, 2, 3, 8, 9, 18}) {
            UnitRoom room = new UnitRoom();
            int time = u < 4 ? 500 : u < 16 ? 400 : 750;
            Check.due("IOC", room.operate(u, Check.IOC, 0, 0), 0);
            room.pass(time - 1);
            Check.due("isBusy just before", room.isBusy(u), true);
            room.pass(1);
            Check.due("isBusy at the end", room.isBusy(u), false);
        }
    }

    private static void operationsWaitForTheirUnit() {
        Check.sentence("Terms, an operation begins when the unit is free (time goes on till then)");
        UnitRoom room = new UnitRoom();
        room.operate(17, Check.OUT, 0, 0);
        room.pass(100);
        room.operate(17, Check.OUT, 0, 0);
        Check.due("time", room.pass(0), 1500);
        room.operate(19, Check.OUT, 0, 0);
        Check.due("another unit need not wait", room.pass(0), 1500);
        room.operate(17, Check.OUT, 0, 0);
        Check.due("time", room.pass(0), 3000);
        Check.due("isBusy(19)", room.isBusy(19), false);
        room.pass(5000);
        room.operate(17, Check.OUT, 0, 0);
        Check.due("a free unit need not wait", room.pass(0), 8000);
    }

    /** Just before the end, at it and just behind it. */
    private static void operationsWaitTillTheEndAlone() {
        Check.sentence("Terms, an operation begins when the unit is free: at its end it is");
        for (int k = 0; k < UNITS.length; k++) {
            int operation = UNITS[k] == 16 ? Check.IN : Check.OUT;
            for (int off = -1; off <= 1; off++) {
                Room room = new Room();
                room.cards(2);
                room.operate(UNITS[k], operation, 0, 0, 0);
                room.pass(TIMES[k] + off, TIMES[k] + off);
                room.operate(UNITS[k], operation, 0, 0, 0);
                long begun = TIMES[k] + Math.max(0, off);
                room.pass(0, begun);
                room.pass(TIMES[k] - 1, begun + TIMES[k] - 1);
                room.isBusy(UNITS[k], true);
                room.pass(1, begun + TIMES[k]);
                room.isBusy(UNITS[k], false);
            }
        }
    }

    private static void wordsComeWhenTheyAreDone() {
        Check.sentence("Terms, IN: the words lie in memory at an address M when it is done");
        for (int u : new int[] {0, 3, 8, 9}) {
            UnitRoom room = new UnitRoom();
            room.fill(0, 100, 5);
            room.operate(u, Check.OUT, 0, 0);
            room.operate(u, Check.IOC, 0, 0);
            room.operate(u, Check.IN, 1000, 0);
            room.set(1000, 8, false);
            room.pass(u < 4 ? 499 : 399);
            Check.due("word just before", room.word(1000), 8);
            room.pass(1);
            Check.due("word at the end", room.word(1000), 5);
            room.set(1000, 9, false);
            room.pass(10000);
            Check.due("it comes once", room.word(1000), 9);
        }
    }

    private static void cardsComeWhenTheyAreDone() {
        Check.sentence("Terms, IN: the words lie in memory when it is done: those of a card");
        Room room = new Room();
        room.type("A");
        room.card(1);
        room.operate(16, Check.IN, 50, 0, 0);
        room.set(65, 8);
        room.pass(999, 999);
        room.word(50, 0);
        room.word(65, 8);
        room.pass(1, 1000);
        room.word(50, Check.packed(1, 0, 0, 0, 0));
        room.word(65, 0);
        room.set(65, 9);
        room.pass(1, 1001);
        room.word(65, 9);
    }

    private static void wordsAreReadAtTheBeginning() {
        Check.sentence("Terms, IN: the words are read when it begins");
        UnitRoom room = new UnitRoom();
        room.fill(0, 100, 5);
        room.operate(8, Check.OUT, 0, 7);
        room.operate(8, Check.IN, 200, 7);
        room.set(0, 6, false);
        room.operate(8, Check.OUT, 0, 7);
        Check.due("block", room.block(8, 7, 0), 6);
        Check.due("word", room.word(200), 5);
    }

    private static void outTakesWhatLiesThereAtItsBeginning() {
        Check.sentence("Terms, OUT takes them from memory when it begins");
        UnitRoom room = new UnitRoom();
        room.fill(0, 100, 5);
        room.operate(8, Check.OUT, 0, 7);
        room.operate(8, Check.IN, 200, 7);
        room.operate(9, Check.OUT, 200, 1);
        Check.due("block before the words came", room.block(9, 1, 0), 0);
        room.operate(8, Check.OUT, 200, 9);
        Check.due("block of a unit that waited for its own words", room.block(8, 9, 0), 5);
    }

    /** Disk 8 brings 5, 12350, .. to 1000 on, so many units of time before its end. */
    private static Room bringingRoom(int before) {
        Room room = new Room();
        room.fill(0, 100, 5, true);
        room.operate(8, Check.OUT, 0, 7, 0);
        room.operate(8, Check.IN, 1000, 7, 0);
        room.pass(400 - before, 800 - before);
        return room;
    }

    private static void doneWordsLieAheadOfSet() {
        Check.sentence("Terms, what is done by the time lies there ahead of all that a call does: set");
        for (int before = -1; before <= 1; before++) {
            Room room = bringingRoom(before);
            room.set(1000, 77);
            room.word(1000, 77);
            room.pass(1, 801 - before);
            room.word(1000, before > 0 ? 5 : 77);
            room.word(1001, 12350);
        }
    }

    private static void doneWordsLieAheadOfFill() {
        Check.sentence("Terms, what is done by the time lies there ahead of all that a call does: fill");
        for (int before = -1; before <= 1; before++) {
            Room room = bringingRoom(before);
            room.fill(1050, 100, 3, true);
            room.word(1050, 3);
            room.pass(1, 801 - before);
            room.word(1049, 5 + 12345 * 49);
            room.word(1050, before > 0 ? 5 + 12345 * 50 : 3);
            room.word(1099, before > 0 ? 5 + 12345 * 99 : 3 + 12345 * 49);
            room.word(1100, 3 + 12345 * 50);
        }
    }

    private static void doneWordsLieAheadOfOut() {
        Check.sentence("Terms, what is done by the time lies there ahead of all that a call does: OUT");
        for (int before = -1; before <= 1; before++) {
            Room room = bringingRoom(before);
            room.operate(9, Check.OUT, 1000, 0, 0);
            room.block(9, 0, 1, before > 0 ? 0 : 12350);
            room.operate(0, Check.OUT, 901, 0, 0);
            room.block(0, 0, 99, before > 0 ? 0 : 5);
            room.operate(17, Check.OUT, 1000, 0, 0);
            room.letter(17, 0, 4, before > 0 ? UnitRoom.NONE : 'E');
        }
    }

    /** Block 1 of disks 8 and 9 and block 0 of tapes 0 and 1 hold the unit's number + 100; time is 1000. */
    private static UnitRoom marked() {
        UnitRoom room = new UnitRoom();
        for (int u : new int[] {0, 1, 8, 9}) {
            room.set(0, u + 100, false);
            room.operate(u, Check.OUT, 0, 1);
        }
        for (int u : new int[] {0, 1}) {
            room.operate(u, Check.IOC, 0, 0);
        }
        Check.due("time", room.pass(500), 1000);
        return room;
    }

    private static void laterEndsLieOnTop() {
        Check.sentence("Terms, of several, in the order of their ends");
        UnitRoom room = marked();
        room.operate(0, Check.IN, 300, 0);
        room.operate(8, Check.IN, 300, 1);
        room.pass(10000);
        Check.due("the tape ends later", room.word(300), 100);
        room = marked();
        room.operate(8, Check.IN, 300, 1);
        room.operate(0, Check.IN, 300, 0);
        room.pass(400);
        Check.due("the disk ends first", room.word(300), 108);
        room.pass(100);
        Check.due("then the tape", room.word(300), 100);
        room = marked();
        room.operate(0, Check.IN, 300, 0);
        room.pass(101);
        room.operate(8, Check.IN, 300, 1);
        room.pass(10000);
        Check.due("the disk ends later", room.word(300), 108);
        room = marked();
        Check.type(room, "A");
        room.card();
        room.operate(16, Check.IN, 300, 0);
        room.operate(0, Check.IN, 300, 0);
        room.operate(9, Check.IN, 300, 1);
        room.pass(10000);
        Check.due("the reader ends last", room.word(300), Check.packed(1, 0, 0, 0, 0));
    }

    private static void ofOneEndTheLaterBeginningLiesOnTop() {
        Check.sentence("Terms, of one time of their beginnings");
        UnitRoom room = marked();
        room.operate(0, Check.IN, 300, 0);
        room.pass(100);
        room.operate(8, Check.IN, 300, 1);
        room.pass(399);
        Check.due("before the end", room.word(300), 0);
        room.pass(1);
        Check.due("the disk began later", room.word(300), 108);
        room = marked();
        Check.type(room, "A");
        room.card();
        room.operate(16, Check.IN, 300, 0);
        room.pass(500);
        room.operate(0, Check.IN, 300, 0);
        room.pass(500);
        Check.due("the tape began later", room.word(300), 100);
    }

    private static void ofOneBeginningTheLaterCallLiesOnTop() {
        Check.sentence("Terms, of one time of their beginnings: begun at one time");
        int[][] pairs = {{0, 1}, {1, 0}, {8, 9}, {9, 8}};
        for (int[] pair : pairs) {
            UnitRoom room = marked();
            room.operate(pair[0], Check.IN, 300, 1);
            room.operate(pair[1], Check.IN, 300, 1);
            room.pass(500);
            Check.due("unit " + pair[1] + " was called later", room.word(300), 100 + pair[1]);
        }
    }

    private static void waitingBringsTheOthersToo() {
        Check.sentence("Terms, what is done by the time lies there ahead of all that a call does: a call that waits");
        UnitRoom room = marked();
        room.operate(8, Check.IN, 300, 1);
        room.operate(0, Check.IOC, 0, 0);
        room.operate(0, Check.OUT, 300, 0);
        Check.due("time", room.pass(0), 1500);
        Check.due("block", room.block(0, 0, 0), 108);
        Check.due("word", room.word(300), 108);
    }
}
