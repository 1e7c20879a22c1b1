import java.util.Random;

/** Runs of 512 calls, always the same ones, each answer held against the model's. */
public final class RandomRunsTest {
    private static final int RUNS = 400;
    private static final int CALLS = 512;
    private static final int[] UNITS = {0, 1, 2, 3, 8, 9, 16, 17, 18, 19};
    private static final int[] EXTREMES = {
        Integer.MIN_VALUE, Integer.MIN_VALUE + 1, -(1 << 30), 1 - (1 << 30), -65, -64, -1, 0, 1, 63, 64, 65, 99,
        100, 200, 201, 299, 300, 3899, 3900, 3901, 3984, 3999, 4000, (1 << 30) - 1, 1 << 30, Integer.MAX_VALUE
    };

    private final Random random;
    private final int run;
    /** Calls that this run prefers, so that some runs reach the far limits. */
    private final int favourite;
    private final UnitRoom room = new UnitRoom();
    private final Model model = new Model();

    private RandomRunsTest(int run) {
        this.run = run;
        random = new Random(run);
        favourite = random.nextInt(24);
    }

    public static void main(String[] args) {
        for (int run = 0; run < RUNS; run++) {
            new RandomRunsTest(run).callAll();
        }
        Check.finish();
    }

    private void callAll() {
        for (int k = 0; k < CALLS; k++) {
            call(k, random.nextInt(3) == 0 ? favourite : random.nextInt(24));
        }
    }

    private void call(int k, int which) {
        int a = argument();
        int b = argument();
        int c = argument();
        int u = unit();
        switch (which) {
            case 0, 1 -> feed(k);
            case 2 -> due(k, "end", room.end(a) ? 1 : 0, model.end(a));
            case 3 -> {
                boolean minus = random.nextBoolean();
                due(k, "set", room.set(a, b, minus) ? 1 : 0, model.set(a, b, minus));
            }
            case 4, 5 -> {
                int n = random.nextInt(4) == 0 ? b : 1 + random.nextInt(200);
                int seed = random.nextInt();
                due(k, "fill", room.fill(a, n, seed) ? 1 : 0, model.fill(a, n, seed));
            }
            case 6, 7 -> due(k, "word", room.word(a), model.word(a));
            case 8 -> operate(k, u, random.nextInt(5) - 1, b, c);
            case 9, 10 -> operate(k, u, 1, random.nextInt(300), random.nextInt(4));
            case 11, 12 -> operate(k, u, 2, random.nextInt(300), random.nextInt(4));
            case 13 -> operate(k, u, 0, 0, 0);
            case 14 -> operate(k, 18, random.nextInt(3), 0, 0);
            case 15 -> due(k, "isBusy", room.isBusy(u) ? 1 : 0, model.isBusy(u));
            case 16 -> due(k, "pass", room.pass(a), model.pass(a));
            case 17 -> passHundreds(k);
            case 18 -> due(k, "card", room.card(), model.card());
            case 19 -> due(k, "unit", room.unit(u), model.unit(u));
            case 20 -> due(k, "letter", room.letter(u, b, c), model.letter(u, b, c));
            case 21 -> letterOfLast(k);
            case 22 -> due(k, "block", room.block(u, b, c), model.block(u, b, c));
            default -> blockOfFirst(k, u);
        }
    }

    private void feed(int k) {
        int[] n = new int[5];
        for (int j = 0; j < 5; j++) {
            n[j] = random.nextInt();
        }
        due(k, "feed", room.feed(n[0], n[1], n[2], n[3], n[4]) ? 1 : 0, model.feed(n));
    }

    private void operate(int k, int u, int operation, int m, int x) {
        String call = "operate(" + u + ", " + operation + ", " + m + ", " + x + ")";
        due(k, call, room.operate(u, operation, m, x), model.operate(u, operation, m, x));
    }

    /** Ends of several units meet at one time only if time goes on in round steps. */
    private void passHundreds(int k) {
        int n = 50 * random.nextInt(12);
        due(k, "pass", room.pass(n), model.pass(n));
    }

    private void letterOfLast(int k) {
        int u = 17 + random.nextInt(3);
        int line = (int) model.unit(u) - 1 + random.nextInt(2);
        int i = random.nextInt(122);
        due(k, "letter", room.letter(u, line, i), model.letter(u, line, i));
    }

    private void blockOfFirst(int k, int u) {
        int b = random.nextInt(4);
        int i = random.nextInt(100);
        due(k, "block", room.block(u, b, i), model.block(u, b, i));
    }

    private int unit() {
        return random.nextInt(12) == 0 ? argument() : UNITS[random.nextInt(UNITS.length)];
    }

    private int argument() {
        return switch (random.nextInt(5)) {
            case 0 -> EXTREMES[random.nextInt(EXTREMES.length)];
            case 1 -> random.nextInt(80) - 8;
            case 2 -> random.nextInt(4100) - 50;
            case 3 -> random.nextInt(400);
            default -> random.nextInt(20);
        };
    }

    private void due(int k, String call, long got, long want) {
        Check.due("run " + run + ", call " + k + ": " + call, got, want);
    }
}
