/** Where the tape and the cards end, promises 1, 2, 3 and 10: a method for each sentence. */
public final class InputEdgesTest {
    private static final int AAAA = 0x41414141;
    private static final int ZZZZ = 0x5A5A5A5A;
    private static final int WORD_OF_A = Check.packed(1, 1, 1, 1, 1);
    private static final int WORD_OF_Z = Check.packed(29, 29, 29, 29, 29);

    public static void main(String[] args) {
        newTapeIsEmpty();
        newRoomHasNoCards();
        feedReachesFourHundred();
        refusedFeedChangesNothing();
        endReachesWhatTheTapeHas();
        endReachesZero();
        onlyTheFirstCount();
        refusedEndChangesNothing();
        cardTakesTheFirstEighty();
        cardLeavesTheTapeEmpty();
        cardLiesBehindTheOthers();
        noneWhenHundredAreThere();
        refusedCardIsNotThere();
        refusedCardLeavesTheTapeEmpty();
        Check.finish();
    }

    private static void newTapeIsEmpty() {
        Check.sentence("Promise 1, the tape is empty");
        Room room = new Room();
        room.end(1, false);
        room.end(-1, false);
        room.end(0, true);
        room = new Room();
        room.feed(ZZZZ, true);
        room.end(21, false);
        room.end(20, true);
        room = new Room();
        room.card(1);
        readInto(room, 0);
        for (int address = 0; address < 16; address++) {
            room.word(address, 0);
        }
    }

    private static void newRoomHasNoCards() {
        Check.sentence("Promise 1, no cards");
        Room room = new Room();
        room.unit(16, 0);
        room.operate(16, Check.IN, 0, 0, 6);
        room.card(1);
        room.unit(16, 1);
        room.operate(16, Check.IN, 0, 0, 0);
        room.unit(16, 0);
        room.operate(16, Check.IN, 0, 0, 6);
    }

    private static void feedReachesFourHundred() {
        Check.sentence("Promise 2, false when it would have more than 400");
        int[] lengths = {0, 1, 379, 380, 381, 382, 399, 400};
        for (int length : lengths) {
            Room room = tapeOf(length);
            boolean fits = length + 20 <= 400;
            room.feed(ZZZZ, fits);
        }
        Room room = new Room();
        for (int k = 1; k <= 20; k++) {
            room.feed(AAAA, true);
        }
        room.feed(AAAA, false);
        room.feed(AAAA, false);
    }

    private static void refusedFeedChangesNothing() {
        Check.sentence("Promise 2, changing nothing");
        int[] lengths = {381, 399, 400};
        for (int length : lengths) {
            Room room = tapeOf(length);
            room.feed(ZZZZ, false);
            room.end(length + 1, false);
            room.end(length, true);
            room.card(1);
            readInto(room, 0);
            for (int address = 0; address < 16; address++) {
                room.word(address, WORD_OF_A);
            }
        }
    }

    private static void endReachesWhatTheTapeHas() {
        Check.sentence("Promise 3, false when it has not so many");
        int[] lengths = {0, 1, 19, 20, 21, 80, 399, 400};
        for (int length : lengths) {
            Room room = tapeOf(length);
            room.end(length + 1, false);
            room.end(Check.GREATEST, false);
            room.end(length, true);
            room.end(length, true);
        }
        Room room = tapeOf(20);
        room.end(19, true);
        room.end(20, false);
        room.end(19, true);
        room.end(18, true);
        room.end(19, false);
    }

    private static void endReachesZero() {
        Check.sentence("Promise 3, false when n is below 0");
        int[] lengths = {0, 20, 400};
        for (int length : lengths) {
            Room room = tapeOf(length);
            room.end(-1, false);
            room.end(-length, length == 0);
            room.end(Check.LEAST, false);
            room.end(0, true);
            room.end(-1, false);
            room.end(1, false);
        }
    }

    private static void onlyTheFirstCount() {
        Check.sentence("Promise 3, of the tape only the first n bytes count");
        int[] sizes = {0, 1, 4, 5, 6, 19, 20};
        for (int n : sizes) {
            Room room = tapeOf(20);
            room.end(n, true);
            room.card(1);
            readInto(room, 0);
            for (int address = 0; address < 5; address++) {
                room.word(address, wordOfFirst(n - 5 * address));
            }
        }
        Room room = tapeOf(20);
        room.end(1, true);
        room.feed(ZZZZ, true);
        room.end(22, false);
        room.end(21, true);
        room.card(1);
        readInto(room, 0);
        room.word(0, Check.packed(1, 29, 29, 29, 29));
        room.word(4, Check.packed(29, 0, 0, 0, 0));
    }

    private static void refusedEndChangesNothing() {
        Check.sentence("Promise 3, changing nothing");
        int[] refused = {21, 400, Check.GREATEST, -1, -20, Check.LEAST};
        for (int n : refused) {
            Room room = tapeOf(20);
            room.end(n, false);
            room.end(21, false);
            room.end(20, true);
            room.card(1);
            readInto(room, 0);
            room.word(3, WORD_OF_A);
            room.word(4, 0);
        }
    }

    private static void cardTakesTheFirstEighty() {
        Check.sentence("Promise 10, its first 80 bytes");
        String text = "A".repeat(78) + "BCDE";
        int[] lastWords = {
            Check.packed(1, 1, 1, 0, 0), Check.packed(1, 1, 1, 2, 0), Check.packed(1, 1, 1, 2, 3),
            Check.packed(1, 1, 1, 2, 3), Check.packed(1, 1, 1, 2, 3)
        };
        for (int k = 0; k < lastWords.length; k++) {
            Room room = new Room();
            room.set(16, 7);
            room.type(text.substring(0, 78 + k));
            room.card(1);
            room.card(2);
            readInto(room, 0);
            room.word(0, WORD_OF_A);
            room.word(14, WORD_OF_A);
            room.word(15, lastWords[k]);
            room.word(16, 7);
            readInto(room, 0);
            room.word(0, 0);
            room.word(15, 0);
        }
        Room room = tapeOf(400);
        room.card(1);
        room.unit(16, 1);
    }

    private static void cardLeavesTheTapeEmpty() {
        Check.sentence("Promise 10, the tape (empty then)");
        int[] lengths = {0, 1, 79, 80, 81, 400};
        for (int length : lengths) {
            Room room = tapeOf(length);
            room.card(1);
            room.end(1, false);
            room.end(0, true);
            room.feed(ZZZZ, true);
            room.end(21, false);
            room.end(20, true);
            room.card(2);
            readInto(room, 0);
            readInto(room, 0);
            room.word(0, WORD_OF_Z);
            room.word(4, 0);
        }
    }

    /** Three cards are read and three put behind the hundredth: the rows are used again. */
    private static void cardLiesBehindTheOthers() {
        Check.sentence("Promise 10, a card behind the others: how many there are");
        Room room = new Room();
        for (int k = 0; k < 100; k++) {
            room.feed(letters(k), true);
            room.card(k + 1);
        }
        for (int k = 0; k < 3; k++) {
            room.operate(16, Check.IN, 0, 0, 0);
        }
        for (int k = 100; k < 103; k++) {
            room.feed(letters(k), true);
            room.card(k - 2);
        }
        room.card(UnitRoom.NONE);
        for (int k = 3; k < 103; k++) {
            room.operate(16, Check.IN, 16 * k, 0, 0);
        }
        room.goOn(1000);
        for (int k = 3; k < 103; k++) {
            room.word(16 * k, Check.packed(30 + k / 10 % 10, 30 + k % 10, 0, 0, 30 + k / 10 % 10));
        }
    }

    private static void noneWhenHundredAreThere() {
        Check.sentence("Promise 10, NONE when 100 are there");
        Room room = new Room();
        room.cards(98);
        room.card(99);
        room.unit(16, 99);
        room.card(100);
        room.unit(16, 100);
        room.card(UnitRoom.NONE);
        room.card(UnitRoom.NONE);
        room.unit(16, 100);
        room.operate(16, Check.IN, 0, 0, 0);
        room.unit(16, 99);
        room.card(100);
        room.card(UnitRoom.NONE);
        room.operate(16, Check.IN, 0, 0, 0);
        room.operate(16, Check.IN, 0, 0, 0);
        room.card(99);
    }

    private static void refusedCardIsNotThere() {
        Check.sentence("Promise 10, NONE when 100 are there: it lies not behind them");
        Room room = new Room();
        room.feed(AAAA, true);
        room.cards(100);
        room.feed(ZZZZ, true);
        room.card(UnitRoom.NONE);
        for (int k = 0; k < 100; k++) {
            room.operate(16, Check.IN, 16 * k, 0, 0);
        }
        room.operate(16, Check.IN, 0, 0, 6);
        room.goOn(1000);
        room.word(0, WORD_OF_A);
        for (int k = 1; k < 100; k++) {
            room.word(16 * k, 0);
        }
    }

    private static void refusedCardLeavesTheTapeEmpty() {
        Check.sentence("Promise 10, the tape (empty then), NONE when 100 are there");
        int[] lengths = {0, 20, 80, 400};
        for (int length : lengths) {
            Room room = new Room();
            room.cards(100);
            fillTape(room, length);
            room.card(UnitRoom.NONE);
            room.end(1, false);
            room.end(0, true);
            room.feed(ZZZZ, true);
            room.end(21, false);
            room.end(20, true);
        }
    }

    private static Room tapeOf(int length) {
        Room room = new Room();
        fillTape(room, length);
        return room;
    }

    private static void fillTape(Room room, int length) {
        for (int k = 0; k < length; k += 20) {
            room.feed(AAAA, true);
        }
        room.end(length, true);
    }

    private static void readInto(Room room, int address) {
        room.operate(16, Check.IN, address, 0, 0);
        room.goOn(1000);
    }

    /** The word whose first n letters are A. */
    private static int wordOfFirst(int n) {
        return Check.packed(n > 0 ? 1 : 0, n > 1 ? 1 : 0, n > 2 ? 1 : 0, n > 3 ? 1 : 0, n > 4 ? 1 : 0);
    }

    /** Two digits and two blanks. */
    private static int letters(int k) {
        return ('0' + k / 10 % 10) << 24 | ('0' + k % 10) << 16 | 0x2020;
    }
}
