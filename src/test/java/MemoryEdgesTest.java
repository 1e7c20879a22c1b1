/** Where memory, values and counts end, promises 4, 5 and 6: a method for each sentence. */
public final class MemoryEdgesTest {
    private static final int LIMIT = 1 << 30;
    private static final int[] OUTSIDE = {-1, 4000, -2, 4001, Check.LEAST, Check.GREATEST};

    public static void main(String[] args) {
        setReachesAddresses();
        setReachesValues();
        minusIsForZero();
        fillReachesNumbers();
        fillReachesAddresses();
        refusedFillChangesNothing();
        fillLeavesOutSignAndHighBits();
        wordReachesAddresses();
        minusZeroIsTheLeastInt();
        Check.finish();
    }

    private static void setReachesAddresses() {
        Check.sentence("Promise 4, an address (0 .. 3999)");
        Room room = new Room();
        int[] inside = {0, 1, 3998, 3999};
        for (int address : inside) {
            room.set(address, 70 + address);
            room.word(address, 70 + address);
        }
        for (int address : OUTSIDE) {
            room.set(address, 5, false, false);
            room.set(address, 0, true, false);
        }
        for (int address : inside) {
            room.word(address, 70 + address);
        }
        room.word(2, 0);
        room.word(3997, 0);
    }

    private static void setReachesValues() {
        Check.sentence("Promise 4, a value, whose size is below 2 to the power 30");
        int[] fitting = {LIMIT - 1, 1 - LIMIT, LIMIT - 2, 2 - LIMIT};
        int[] tooGreat = {LIMIT, -LIMIT, LIMIT + 1, -LIMIT - 1, Check.GREATEST, Check.LEAST, Check.LEAST + 1};
        for (int minus = 0; minus < 2; minus++) {
            Room room = new Room();
            for (int value : fitting) {
                room.set(9, value, minus == 1, true);
                room.word(9, value);
            }
            room.set(9, 44);
            for (int value : tooGreat) {
                room.set(9, value, minus == 1, false);
                room.word(9, 44);
            }
        }
    }

    private static void minusIsForZero() {
        Check.sentence("Promise 4, minus: -0 where it is 0");
        Room room = new Room();
        room.set(3, 0, true, true);
        room.word(3, Check.MINUS_ZERO);
        room.set(3, 0, false, true);
        room.word(3, 0);
        int[] others = {1, -1, 2, LIMIT - 1, 1 - LIMIT};
        for (int value : others) {
            room.set(3, value, true, true);
            room.word(3, value);
        }
    }

    private static void fillReachesNumbers() {
        Check.sentence("Promise 5, n words (1 .. 200)");
        int[] fitting = {1, 2, 199, 200};
        for (int n : fitting) {
            Room room = new Room();
            room.fill(1000, n, 8, true);
            room.word(999, 0);
            room.word(1000, 8);
            room.word(1000 + n - 1, 8 + 12345 * (n - 1));
            room.word(1000 + n, 0);
        }
        int[] refused = {0, -1, 201, 202, 4000, Check.LEAST, Check.GREATEST};
        for (int n : refused) {
            Room room = new Room();
            room.fill(1000, n, 8, false);
            room.fill(0, n, 8, false);
            room.word(1000, 0);
            room.word(1199, 0);
            room.word(0, 0);
        }
    }

    private static void fillReachesAddresses() {
        Check.sentence("Promise 5, from an address on");
        int[] numbers = {1, 2, 199, 200};
        for (int n : numbers) {
            Room room = new Room();
            room.fill(0, n, 6, true);
            room.word(0, 6);
            room.word(n, 0);
            room.fill(4000 - n, n, 6, true);
            room.word(3999 - n, 0);
            room.word(4000 - n, 6);
            room.word(3999, 6 + 12345 * (n - 1));
            room.fill(3999 - n, n, 5, true);
            room.word(3999 - n, 5);
            room.word(3999, 6 + 12345 * (n - 1));
            room.fill(4001 - n, n, 6, false);
            for (int address : OUTSIDE) {
                room.fill(address, n, 6, false);
            }
            room.fill(Check.GREATEST - n + 1, n, 6, false);
            room.fill(-n, n, 6, false);
        }
    }

    private static void refusedFillChangesNothing() {
        Check.sentence("Promise 5, n words from an address on, or none");
        Room room = new Room();
        room.fill(3801, 200, 6, false);
        room.fill(3999, 2, 6, false);
        room.fill(-1, 2, 6, false);
        room.fill(-199, 200, 6, false);
        room.fill(3900, 201, 6, false);
        room.fill(3799, 201, 6, false);
        int[] near = {0, 1, 3799, 3800, 3801, 3900, 3998, 3999};
        for (int address : near) {
            room.word(address, 0);
        }
    }

    private static void fillLeavesOutSignAndHighBits() {
        Check.sentence("Promise 5, without sign and the bits above 30");
        int[][] seedsAndWords = {
            {0, 0, 12345}, {LIMIT - 1, LIMIT - 1, 12344}, {LIMIT, 0, 12345}, {LIMIT + 1, 1, 12346},
            {LIMIT - 12346, LIMIT - 12346, LIMIT - 1}, {LIMIT - 12345, LIMIT - 12345, 0},
            {-1, LIMIT - 1, 12344}, {-12345, LIMIT - 12345, 0}, {-12346, LIMIT - 12346, LIMIT - 1},
            {-LIMIT, 0, 12345}, {-LIMIT - 1, LIMIT - 1, 12344}, {1 - LIMIT, 1, 12346},
            {Check.LEAST, 0, 12345}, {Check.LEAST + 1, 1, 12346},
            {Check.GREATEST, LIMIT - 1, 12344}, {Check.GREATEST - 12345, LIMIT - 12346, LIMIT - 1}
        };
        for (int[] row : seedsAndWords) {
            Room room = new Room();
            room.set(50, 0, true, true);
            room.set(51, -1);
            room.fill(50, 2, row[0], true);
            room.word(50, row[1]);
            room.word(51, row[2]);
        }
    }

    private static void wordReachesAddresses() {
        Check.sentence("Promise 6, the greatest int when there is none");
        Room room = new Room();
        room.set(0, 31);
        room.set(3999, 32);
        room.word(0, 31);
        room.word(1, 0);
        room.word(3998, 0);
        room.word(3999, 32);
        for (int address : OUTSIDE) {
            room.word(address, Check.NO_WORD);
        }
    }

    private static void minusZeroIsTheLeastInt() {
        Check.sentence("Terms, told as values, -0 as the least int");
        Room room = new Room();
        room.set(0, 0, true, true);
        room.set(1, 1 - LIMIT);
        room.set(2, -1);
        room.operate(8, Check.OUT, 0, 4, 0);
        room.operate(8, Check.IN, 200, 4, 0);
        room.goOn(400);
        int[] words = {Check.MINUS_ZERO, 1 - LIMIT, -1, 0};
        for (int k = 0; k < words.length; k++) {
            room.word(k, words[k]);
            room.block(8, 4, k, words[k]);
            room.word(200 + k, words[k]);
        }
    }
}
