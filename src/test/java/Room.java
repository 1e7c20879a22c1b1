import java.nio.charset.StandardCharsets;

/** A UnitRoom whose every call is made with the answer that is due. */
final class Room {
    /** Nothing is promised of later calls, so a test that needs more is itself wrong. */
    private static final int MOST_CALLS = 512;

    private final UnitRoom room = new UnitRoom();
    private int calls = 0;

    void feed(int number, boolean want) {
        due(call("feed", number, number, number, number, number),
                room.feed(number, number, number, number, number), want);
    }

    void end(int n, boolean want) {
        due(call("end", n), room.end(n), want);
    }

    void set(int address, int value, boolean minus, boolean want) {
        due("set(" + address + ", " + value + ", " + minus + ")", room.set(address, value, minus), want);
    }

    void set(int address, int value) {
        set(address, value, false, true);
    }

    void fill(int address, int n, int seed, boolean want) {
        due(call("fill", address, n, seed), room.fill(address, n, seed), want);
    }

    void word(int address, int want) {
        due(call("word", address), room.word(address), want);
    }

    void operate(int unit, int operation, int m, int x, int want) {
        due(call("operate", unit, operation, m, x), room.operate(unit, operation, m, x), want);
    }

    void isBusy(int unit, boolean want) {
        due(call("isBusy", unit), room.isBusy(unit), want);
    }

    void pass(int n, long want) {
        due(call("pass", n), room.pass(n), want);
    }

    void card(int want) {
        due("card()", room.card(), want);
    }

    void unit(int u, int want) {
        due(call("unit", u), room.unit(u), want);
    }

    void letter(int u, int k, int i, int want) {
        due(call("letter", u, k, i), room.letter(u, k, i), want);
    }

    void block(int u, int b, int i, int want) {
        due(call("block", u, b, i), room.block(u, b, i), want);
    }

    /** Time goes on, whatever it is then. */
    void goOn(int n) {
        count();
        room.pass(n);
    }

    /** The tape becomes a text of up to 400 bytes. */
    void type(String text) {
        typeBytes(text.getBytes(StandardCharsets.ISO_8859_1));
    }

    void typeBytes(byte[] bytes) {
        end(0, true);
        Check.typeBytes(room, bytes);
        for (int k = 0; k <= (bytes.length + 19) / 20; k++) {
            count();
        }
    }

    /** So many cards, all blank, behind none. */
    void cards(int n) {
        for (int k = 1; k <= n; k++) {
            card(k);
        }
    }

    /** Line k is this text, and no letter lies before or behind it. */
    void line(int u, int k, String want) {
        letter(u, k, -1, UnitRoom.NONE);
        for (int i = 0; i < want.length(); i++) {
            letter(u, k, i, want.charAt(i));
        }
        letter(u, k, want.length(), UnitRoom.NONE);
    }

    private static String call(String name, int... arguments) {
        StringBuilder text = new StringBuilder(name);
        char before = '(';
        for (int argument : arguments) {
            text.append(before).append(before == '(' ? "" : " ").append(argument);
            before = ',';
        }
        return text.append(')').toString();
    }

    private void due(String call, long got, long want) {
        count();
        Check.due(call, got, want);
    }

    private void due(String call, boolean got, boolean want) {
        count();
        Check.due(call, got, want);
    }

    private void count() {
        calls++;
        if (calls == MOST_CALLS + 1) {
            Check.due("the calls of one object", calls, MOST_CALLS);
        }
    }
}
