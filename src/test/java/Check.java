import java.nio.charset.StandardCharsets;

/** What the tests share: counting wrong answers, and reaching a state in a few words. */
final class Check {
    static final int NO_WORD = Integer.MAX_VALUE;
    static final int MINUS_ZERO = Integer.MIN_VALUE;
    static final int IOC = 0;
    static final int IN = 1;
    static final int OUT = 2;
    static final int[] TAPES = {0, 1, 2, 3};
    static final int[] DISKS = {8, 9};
    static final int[] WRITERS = {17, 18, 19};
    static final int[] ODD_UNITS = {
        Integer.MIN_VALUE, -1, 4, 5, 6, 7, 10, 11, 12, 13, 14, 15, 20, 21, 100, Integer.MAX_VALUE
    };

    /** The greatest and the least int: arguments at which sums wrap around. */
    static final int GREATEST = Integer.MAX_VALUE;
    static final int LEAST = Integer.MIN_VALUE;

    private static int wrong = 0;
    private static String sentence = "";

    private Check() {
    }

    /** The words of the document that the calls from here on hold to; a wrong answer tells them. */
    static void sentence(String words) {
        sentence = words + ": ";
    }

    static void due(String call, long got, long want) {
        if (got != want) {
            wrong++;
            System.out.println(sentence + call + " answered " + got + ", due is " + want);
        }
    }

    static void due(String call, boolean got, boolean want) {
        due(call, got ? 1L : 0L, want ? 1L : 0L);
    }

    static void due(String call, String got, String want) {
        if (!got.equals(want)) {
            wrong++;
            System.out.println(sentence + call + " answered [" + got + "], due is [" + want + "]");
        }
    }

    static void finish() {
        System.out.println(wrong == 0 ? "all answers are as due" : wrong + " answers are not as due");
        if (wrong != 0) {
            System.exit(1);
        }
    }

    /** The word of five bytes. */
    static int packed(int a, int b, int c, int d, int e) {
        return (((a * 64 + b) * 64 + c) * 64 + d) * 64 + e;
    }

    /** Puts a text on the tape, of whatever length up to 400. */
    static void type(UnitRoom room, String text) {
        typeBytes(room, text.getBytes(StandardCharsets.ISO_8859_1));
    }

    static void typeBytes(UnitRoom room, byte[] bytes) {
        for (int from = 0; from < bytes.length; from += 20) {
            int[] numbers = new int[5];
            for (int k = 0; k < 20; k++) {
                int next = from + k < bytes.length ? bytes[from + k] & 255 : 0;
                numbers[k / 4] = (numbers[k / 4] << 8) | next;
            }
            due("feed", room.feed(numbers[0], numbers[1], numbers[2], numbers[3], numbers[4]), true);
        }
        due("end(" + bytes.length + ")", room.end(bytes.length), true);
    }

    static String line(UnitRoom room, int u, int k) {
        StringBuilder text = new StringBuilder();
        for (int i = 0; room.letter(u, k, i) != UnitRoom.NONE; i++) {
            text.append((char) room.letter(u, k, i));
        }
        return text.toString();
    }
}
