/** Promises 4, 5 and 6. */
public final class MemoryTest {
    private static final int GREATEST = (1 << 30) - 1;

    public static void main(String[] args) {
        setPutsValues();
        fillCountsUp();
        Check.finish();
    }

    private static void setPutsValues() {
        UnitRoom room = new UnitRoom();
        int[] values = {0, 1, -1, 63, 64, -12345, GREATEST, -GREATEST};
        int[] addresses = {0, 1, 1999, 3999};
        for (int address : addresses) {
            for (int value : values) {
                Check.due("set " + address, room.set(address, value, false), true);
                Check.due("word " + address, room.word(address), value);
            }
        }
        Check.due("word(2)", room.word(2), 0);
        Check.due("word(3998)", room.word(3998), 0);
    }

    private static void fillCountsUp() {
        UnitRoom room = new UnitRoom();
        Check.due("fill 200", room.fill(3800, 200, 11), true);
        for (int k = 0; k < 200; k++) {
            Check.due("word " + (3800 + k), room.word(3800 + k), 11 + 12345 * k);
        }
        Check.due("word(3799)", room.word(3799), 0);
        Check.due("fill 1", room.fill(0, 1, 3), true);
        Check.due("word(0)", room.word(0), 3);
        Check.due("word(1)", room.word(1), 0);
    }
}
