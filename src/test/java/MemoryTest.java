/** Promises 4, 5 and 6. */
public final class MemoryTest {
    private static final int GREATEST = (1 << 30) - 1;

    public static void main(String[] args) {
        setPutsValues();
        setRefuses();
        minusIsForZeroAlone();
        fillCountsUp();
        fillDropsHighBits();
        fillRefuses();
        wordOutside();
        Check.finish();
    }

    private static void setPutsValues() {
        UnitRoom room = new UnitRoom();
        int[] values = {0, 1, -1, 63, 64, -12345, GREATEST, -GREATEST};
        int[] addresses = {0, 1, 1999, 3999};
        for (int address : addresses) {
            for (int value : values) {
                Check.due("set " + address, room.set(address, value, false), true);
                Check.due("word " + address, room.word(address), value);
            }
        }
        Check.due("word(2)", room.word(2), 0);
        Check.due("word(3998)", room.word(3998), 0);
    }

    private static void setRefuses() {
        UnitRoom room = new UnitRoom();
        room.set(5, 9, false);
        int[] tooBig = {GREATEST + 1, -GREATEST - 1, Integer.MAX_VALUE, Integer.MIN_VALUE};
        for (int value : tooBig) {
            Check.due("set to " + value, room.set(5, value, false), false);
            Check.due("set to " + value, room.set(5, value, true), false);
            Check.due("word(5)", room.word(5), 9);
        }
        int[] outside = {-1, 4000, Integer.MIN_VALUE, Integer.MAX_VALUE};
        for (int address : outside) {
            Check.due("set at " + address, room.set(address, 1, false), false);
        }
    }

    private static void minusIsForZeroAlone() {
        UnitRoom room = new UnitRoom();
        Check.due("set -0", room.set(7, 0, true), true);
        Check.due("word of -0", room.word(7), Check.MINUS_ZERO);
        Check.due("set +0", room.set(7, 0, false), true);
        Check.due("word of +0", room.word(7), 0);
        room.set(7, 5, true);
        Check.due("word of 5 with minus", room.word(7), 5);
        room.set(7, -5, true);
        Check.due("word of -5 with minus", room.word(7), -5);
    }

    private static void fillCountsUp() {
        UnitRoom room = new UnitRoom();
        Check.due("fill 200", room.fill(3800, 200, 11), true);
        for (int k = 0; k < 200; k++) {
            Check.due("word " + (3800 + k), room.word(3800 + k), 11 + 12345 * k);
        }
        Check.due("word(3799)", room.word(3799), 0);
        Check.due("fill 1", room.fill(0, 1, 3), true);
        Check.due("word(0)", room.word(0), 3);
        Check.due("word(1)", room.word(1), 0);
    }

    private static void fillDropsHighBits() {
        UnitRoom room = new UnitRoom();
        int[] seeds = {GREATEST, GREATEST + 1, -1, -5, Integer.MAX_VALUE, Integer.MIN_VALUE, -24690};
        for (int seed : seeds) {
            Check.due("fill from " + seed, room.fill(10, 3, seed), true);
            for (int k = 0; k < 3; k++) {
                long want = Math.floorMod(seed + 12345L * k, 1L << 30);
                Check.due("fill from " + seed + ", word " + k, room.word(10 + k), want);
            }
        }
    }

    private static void fillRefuses() {
        UnitRoom room = new UnitRoom();
        int[][] refused = {
            {0, 0}, {0, -1}, {0, 201}, {0, Integer.MAX_VALUE}, {0, Integer.MIN_VALUE},
            {-1, 1}, {-1, 5}, {4000, 1}, {3999, 2}, {3801, 200},
            {Integer.MAX_VALUE, 1}, {Integer.MAX_VALUE, 200}, {Integer.MIN_VALUE, 200}
        };
        for (int[] pair : refused) {
            Check.due("fill " + pair[0] + ", " + pair[1], room.fill(pair[0], pair[1], 1), false);
        }
        int[] near = {0, 1, 5, 199, 200, 3800, 3801, 3998, 3999};
        for (int address : near) {
            Check.due("word " + address, room.word(address), 0);
        }
    }

    private static void wordOutside() {
        UnitRoom room = new UnitRoom();
        int[] outside = {-1, 4000, Integer.MIN_VALUE, Integer.MAX_VALUE};
        for (int address : outside) {
            Check.due("word " + address, room.word(address), Check.NO_WORD);
        }
    }
}
