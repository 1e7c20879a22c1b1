import java.util.ArrayDeque;
import java.util.ArrayList;
import java.util.Comparator;
import java.util.HashMap;
import java.util.List;
import java.util.Map;

/** The document once more, in another way: bytes in texts, words in maps, what is due in a sorted list. */
final class Model {
    private static final String LETTERS =
            " ABCDEFGHI~JKLMNOPQR[#STUVWXYZ0123456789.,()+-*/=$<>@;:'????????";

    private record Due(long end, int[] words, int address) {
    }

    private final Map<Integer, Integer> memory = new HashMap<>();
    private final Map<String, Integer> blocks = new HashMap<>();
    private final Map<Integer, Long> freeAt = new HashMap<>();
    private final Map<Integer, Integer> places = new HashMap<>();
    private final Map<Integer, List<String>> lines = new HashMap<>();
    private final ArrayDeque<String> cards = new ArrayDeque<>();
    private final List<Due> due = new ArrayList<>();
    private String tape = "";
    private long now = 0;

    long feed(int... numbers) {
        if (tape.length() + 20 > 400) {
            return 0;
        }
        for (int number : numbers) {
            for (int shift = 24; shift >= 0; shift -= 8) {
                tape += (char) ((number >>> shift) & 255);
            }
        }
        return 1;
    }

    long end(int n) {
        if (n < 0 || n > tape.length()) {
            return 0;
        }
        tape = tape.substring(0, n);
        return 1;
    }

    long set(int address, int value, boolean minus) {
        if (address < 0 || address > 3999 || Math.abs((long) value) >= 1L << 30) {
            return 0;
        }
        memory.put(address, value == 0 && minus ? Check.MINUS_ZERO : value);
        return 1;
    }

    long fill(int address, int n, int seed) {
        if (n < 1 || n > 200 || !lies(address, n)) {
            return 0;
        }
        for (int k = 0; k < n; k++) {
            memory.put(address + k, (int) Math.floorMod(seed + 12345L * k, 1L << 30));
        }
        return 1;
    }

    long word(int address) {
        return lies(address, 1) ? memory.getOrDefault(address, 0) : Check.NO_WORD;
    }

    long operate(int unit, int operation, int m, int x) {
        int fault = fault(unit, operation, m, x);
        if (fault != 0) {
            return fault;
        }
        goOn(Math.max(now, freeAt.getOrDefault(unit, 0L)));
        freeAt.put(unit, now + time(unit));
        if (unit < 4) {
            int place = places.getOrDefault(unit, 0);
            if (operation == 0) {
                long moved = m == 0 ? 0 : (long) place + m;
                places.put(unit, (int) Math.min(64, Math.max(0, moved)));
            } else {
                move(unit, operation, m, place);
                places.put(unit, place + 1);
            }
        } else if (unit < 10) {
            if (operation != 0) {
                move(unit, operation, m, x);
            }
        } else if (unit == 16) {
            readCard(m);
        } else {
            write(unit, operation == 0 ? "\f" : text(m, words(unit)));
        }
        return 0;
    }

    long isBusy(int unit) {
        return freeAt.getOrDefault(unit, 0L) > now ? 1 : 0;
    }

    long pass(int n) {
        goOn(now + (n < 0 ? 0 : n > 10000 ? 10000 : n));
        return now;
    }

    long card() {
        String card = (tape + " ".repeat(80)).substring(0, 80);
        tape = "";
        if (cards.size() == 100) {
            return -1;
        }
        cards.add(card);
        return cards.size();
    }

    long unit(int u) {
        if (u >= 0 && u < 4) {
            return places.getOrDefault(u, 0);
        }
        return u == 16 ? cards.size() : u > 16 && u < 20 ? linesOf(u).size() : -1;
    }

    long letter(int u, int k, int i) {
        if (u < 17 || u > 19 || k < 0 || k >= linesOf(u).size()) {
            return -1;
        }
        String line = linesOf(u).get(k);
        return i < 0 || i >= line.length() ? -1 : line.charAt(i);
    }

    long block(int u, int b, int i) {
        boolean there = words(u) == 100 && b >= 0 && b < 64 && i >= 0 && i < 100;
        return there ? blocks.getOrDefault(u + "/" + b + "/" + i, 0) : Check.NO_WORD;
    }

    private static boolean lies(long address, int n) {
        return address >= 0 && address + n <= 4000;
    }

    private static int words(int unit) {
        return switch (unit) {
            case 0, 1, 2, 3, 8, 9 -> 100;
            case 16, 17 -> 16;
            case 18 -> 24;
            case 19 -> 14;
            default -> 1;
        };
    }

    private static int time(int unit) {
        return switch (unit) {
            case 0, 1, 2, 3 -> 500;
            case 8, 9 -> 400;
            case 16 -> 1000;
            case 17 -> 1500;
            case 18 -> 750;
            default -> 900;
        };
    }

    private int fault(int unit, int operation, int m, int x) {
        if (operation < 0 || operation > 2) {
            return 1;
        }
        if (operation > 0 && !lies(m, words(unit))) {
            return 2;
        }
        return switch (unit) {
            case 0, 1, 2, 3 -> operation > 0 && places.getOrDefault(unit, 0) == 64 ? 6 : 0;
            case 8, 9 -> operation == 0 && m != 0 ? 5 : x < 0 || x > 63 ? 6 : 0;
            case 16 -> operation != 1 ? 5 : cards.isEmpty() ? 6 : 0;
            case 17, 19 -> operation == 2 ? 0 : 5;
            case 18 -> operation == 2 || (operation == 0 && m == 0) ? 0 : 5;
            default -> 5;
        };
    }

    /** Stable sorting keeps those of one end in the order in which they began. */
    private void goOn(long time) {
        now = time;
        due.sort(Comparator.comparingLong(Due::end));
        while (!due.isEmpty() && due.get(0).end() <= now) {
            Due done = due.remove(0);
            for (int k = 0; k < done.words().length; k++) {
                memory.put(done.address() + k, done.words()[k]);
            }
        }
    }

    private void move(int unit, int operation, int m, int b) {
        int[] words = new int[100];
        for (int i = 0; i < 100; i++) {
            if (operation == 1) {
                words[i] = (int) block(unit, b, i);
            } else {
                blocks.put(unit + "/" + b + "/" + i, (int) word(m + i));
            }
        }
        if (operation == 1) {
            due.add(new Due(now + time(unit), words, m));
        }
    }

    private void readCard(int m) {
        String card = cards.remove();
        int[] words = new int[16];
        for (int k = 0; k < 80; k++) {
            char letter = card.charAt(k);
            int great = letter >= 'a' && letter <= 'z' ? letter - 32 : letter;
            int code = great == '?' ? 0 : Math.max(0, LETTERS.indexOf(great));
            words[k / 5] = words[k / 5] * 64 + code;
        }
        due.add(new Due(now + 1000, words, m));
    }

    private void write(int unit, String line) {
        if (linesOf(unit).size() < 300) {
            linesOf(unit).add(line);
        }
    }

    private String text(int m, int words) {
        StringBuilder text = new StringBuilder();
        for (int k = 0; k < words; k++) {
            long told = word(m + k);
            long size = told == Check.MINUS_ZERO ? 0 : Math.abs(told);
            for (long unit = 1L << 24; unit > 0; unit /= 64) {
                text.append(LETTERS.charAt((int) (size / unit % 64)));
            }
        }
        return text.toString().replaceAll(" +$", "");
    }

    private List<String> linesOf(int unit) {
        return lines.computeIfAbsent(unit, any -> new ArrayList<>());
    }
}
