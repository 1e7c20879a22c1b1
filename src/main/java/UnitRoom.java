/** Units that work beside a memory; what a unit brings lies in memory when it is done. */
public final class UnitRoom {
    public static final int NONE = -1;

    private static final int IOC = 0;
    private static final int IN = 1;
    private static final int OUT = 2;

    private static final int NO_FAULT = 0;
    private static final int NO_SUCH_OPERATION = 1;
    private static final int NOT_IN_MEMORY = 2;
    private static final int NOT_ABLE = 5;
    private static final int NO_MORE = 6;

    private static final int MINUS_ZERO = 0x80000000;
    private static final int NO_WORD = 0x7FFFFFFF;
    private static final int WORD_LIMIT = 1 << 30;
    private static final int BYTES_IN_WORD = 5;
    private static final int BITS_IN_BYTE = 6;
    private static final int BYTE_MASK = 63;

    private static final int MOST_FILLED = 200;
    private static final int FILL_STEP = 12345;
    private static final int LONGEST_PASS = 10000;

    private static final int UNIT_NUMBERS = 20;
    private static final int READER = 16;
    private static final int PUNCH = 17;
    private static final int PRINTER = 18;
    private static final int TYPEWRITER = 19;

    /** The place of a letter is its byte. */
    private static final String LETTERS =
            " ABCDEFGHI~JKLMNOPQR[#STUVWXYZ0123456789.,()+-*/=$<>@;:'";
    private static final char UNKNOWN_LETTER = '?';
    private static final char FORM_FEED = 12;

    private final Memory memory;
    private final InputTape input;
    private final Reader reader;
    private final Device[] devices;
    private long now;
    private int begun;

    public UnitRoom() {
        memory = new Memory();
        input = new InputTape();
        reader = new Reader();
        devices = new Device[UNIT_NUMBERS];
        for (int u = 0; u < 4; u++) {
            devices[u] = new Tape();
        }
        devices[8] = new Disk();
        devices[9] = new Disk();
        devices[READER] = reader;
        devices[PUNCH] = new Writer(16, 1500, false);
        devices[PRINTER] = new Writer(24, 750, true);
        devices[TYPEWRITER] = new Writer(14, 900, false);
        now = 0;
        begun = 0;
    }

    public boolean feed(int a, int b, int c, int d, int e) {
        if (!input.hasRoom()) {
            return false;
        }
        input.append(a);
        input.append(b);
        input.append(c);
        input.append(d);
        input.append(e);
        return true;
    }

    public boolean end(int n) {
        return input.cut(n);
    }

    public boolean set(int address, int value, boolean minus) {
        if (!memory.holds(address, 1) || value <= -WORD_LIMIT || value >= WORD_LIMIT) {
            return false;
        }
        memory.put(address, minus && value == 0 ? MINUS_ZERO : value);
        return true;
    }

    public boolean fill(int address, int n, int seed) {
        if (n < 1 || n > MOST_FILLED || !memory.holds(address, n)) {
            return false;
        }
        for (int k = 0; k < n; k++) {
            memory.put(address + k, (seed + FILL_STEP * k) & (WORD_LIMIT - 1));
        }
        return true;
    }

    public int word(int address) {
        return memory.at(address);
    }

    public int operate(int unit, int operation, int m, int x) {
        Device device = deviceOf(unit);
        int fault = faultOf(device, operation, m, x);
        if (fault != NO_FAULT || device == null) {
            return fault;
        }
        goOnTo(Math.max(now, device.freeAt));
        begun++;
        device.begin(now, begun);
        device.work(operation, m, x, memory);
        return NO_FAULT;
    }

    public boolean isBusy(int unit) {
        Device device = deviceOf(unit);
        return device != null && device.freeAt > now;
    }

    public long pass(int n) {
        goOnTo(now + Math.max(0, Math.min(LONGEST_PASS, n)));
        return now;
    }

    public int card() {
        boolean accepted = reader.hasRoom();
        if (accepted) {
            reader.accept(input);
        }
        // The document does not say "changing nothing" here: a refused card empties the tape too.
        input.cut(0);
        return accepted ? reader.tell() : NONE;
    }

    public int unit(int u) {
        Device device = deviceOf(u);
        return device == null ? NONE : device.tell();
    }

    public int letter(int u, int k, int i) {
        Device device = deviceOf(u);
        if (device instanceof Writer writer) {
            return writer.letterAt(k, i);
        }
        return NONE;
    }

    public int block(int u, int b, int i) {
        Device device = deviceOf(u);
        if (device instanceof BlockDevice store) {
            return store.wordAt(b, i);
        }
        return NO_WORD;
    }

    private Device deviceOf(int unit) {
        return unit < 0 || unit >= devices.length ? null : devices[unit];
    }

    /** The tests stand in the order of the fault numbers, for the lowest one is told. */
    private int faultOf(Device device, int operation, int m, int x) {
        if (operation < IOC || operation > OUT) {
            return NO_SUCH_OPERATION;
        }
        int words = device == null ? 1 : device.words;
        if (operation != IOC && !memory.holds(m, words)) {
            return NOT_IN_MEMORY;
        }
        return device == null ? NOT_ABLE : device.faultOf(operation, m, x);
    }

    private void goOnTo(long time) {
        now = time;
        // A unit has one operation at a time, so no more than one delivery each can be due.
        for (int k = 0; k < devices.length; k++) {
            Device next = nextDone();
            if (next == null) {
                return;
            }
            next.deliver(memory);
        }
    }

    private Device nextDone() {
        Device next = null;
        for (int u = 0; u < devices.length; u++) {
            Device device = devices[u];
            if (device != null && device.bringing && device.freeAt <= now
                    && (next == null || device.isDoneAheadOf(next))) {
                next = device;
            }
        }
        return next;
    }

    private static char letterOf(int code) {
        return code < 0 || code >= LETTERS.length() ? UNKNOWN_LETTER : LETTERS.charAt(code);
    }

    private static int codeOf(int letter) {
        int great = letter >= 'a' && letter <= 'z' ? letter - 'a' + 'A' : letter;
        return Math.max(0, LETTERS.indexOf((char) great));
    }

    /** The words as they are told: -0 is held as the least int. */
    private static final class Memory {
        private final int[] cells = new int[4000];

        boolean holds(int address, int n) {
            return address >= 0 && n >= 0 && n <= cells.length && address <= cells.length - n;
        }

        int at(int address) {
            return holds(address, 1) ? cells[address] : NO_WORD;
        }

        void put(int address, int told) {
            if (holds(address, 1)) {
                cells[address] = told;
            }
        }

        void copyInto(int[] row, int address) {
            if (holds(address, row.length)) {
                System.arraycopy(cells, address, row, 0, row.length);
            }
        }

        void takeFrom(int[] row, int address) {
            if (holds(address, row.length)) {
                System.arraycopy(row, 0, cells, address, row.length);
            }
        }

        /** Byte k of the words from an address on, five to a word. */
        int byteAt(int address, int k) {
            int told = at(address + k / BYTES_IN_WORD);
            int size = told == MINUS_ZERO ? 0 : Math.abs(told);
            int place = BYTES_IN_WORD - 1 - k % BYTES_IN_WORD;
            return (size >> (place * BITS_IN_BYTE)) & BYTE_MASK;
        }
    }

    /** The tape of bytes that becomes a card; it has nothing to do with the units 0 to 3. */
    private static final class InputTape {
        private static final int BYTES_IN_FEED = 20;

        private final byte[] bytes = new byte[400];
        private int length = 0;

        boolean hasRoom() {
            return length <= bytes.length - BYTES_IN_FEED;
        }

        void append(int number) {
            for (int shift = 24; shift >= 0 && length < bytes.length; shift -= 8) {
                bytes[length] = (byte) (number >> shift);
                length++;
            }
        }

        boolean cut(int n) {
            if (n < 0 || n > length) {
                return false;
            }
            length = n;
            return true;
        }

        int codeAt(int i) {
            return i < 0 || i >= length ? 0 : codeOf(bytes[i] & 255);
        }
    }

    private abstract static class Device {
        final int words;
        final int[] brought;
        private final int duration;
        long freeAt = 0;
        boolean bringing = false;
        private int turn = 0;
        private int target = 0;

        Device(int words, int duration) {
            this.words = words;
            this.duration = duration;
            brought = new int[Math.max(0, words)];
        }

        /** The fault of an operation 0 .. 2 whose words lie in memory. */
        abstract int faultOf(int operation, int m, int x);

        /** Does what an operation without fault does when it begins. */
        abstract void work(int operation, int m, int x, Memory memory);

        abstract int tell();

        final void begin(long now, int turn) {
            freeAt = now + duration;
            this.turn = turn;
        }

        final void bringTo(int address) {
            target = address;
            bringing = true;
        }

        final void deliver(Memory memory) {
            memory.takeFrom(brought, target);
            bringing = false;
        }

        final boolean isDoneAheadOf(Device other) {
            return freeAt < other.freeAt || (freeAt == other.freeAt && turn < other.turn);
        }
    }

    private abstract static class BlockDevice extends Device {
        static final int BLOCKS = 64;
        static final int BLOCK_WORDS = 100;

        /** A block's row is made when it is first written: an object that uses few stays small. */
        private final int[][] blocks = new int[BLOCKS][];

        BlockDevice(int duration) {
            super(BLOCK_WORDS, duration);
        }

        final int wordAt(int b, int i) {
            if (b < 0 || b >= blocks.length || i < 0 || i >= BLOCK_WORDS) {
                return NO_WORD;
            }
            int[] row = blocks[b];
            return row == null || i >= row.length ? 0 : row[i];
        }

        final void readBlock(int b, int address) {
            for (int i = 0; i < brought.length; i++) {
                brought[i] = wordAt(b, i);
            }
            bringTo(address);
        }

        final void writeBlock(int b, int address, Memory memory) {
            if (b < 0 || b >= blocks.length) {
                return;
            }
            int[] row = blocks[b];
            if (row == null) {
                row = new int[BLOCK_WORDS];
                blocks[b] = row;
            }
            memory.copyInto(row, address);
        }
    }

    private static final class Tape extends BlockDevice {
        private int position = 0;

        Tape() {
            super(500);
        }

        int faultOf(int operation, int m, int x) {
            return operation != IOC && position >= BLOCKS ? NO_MORE : NO_FAULT;
        }

        void work(int operation, int m, int x, Memory memory) {
            if (operation == IOC) {
                position = m == 0 ? 0 : positionAfter(m);
                return;
            }
            if (operation == IN) {
                readBlock(position, m);
            } else {
                writeBlock(position, m, memory);
            }
            position++;
        }

        int tell() {
            return position;
        }

        private int positionAfter(int move) {
            // In int the sum could wrap around for a great move.
            long sum = (long) position + move;
            return (int) Math.max(0L, Math.min((long) BLOCKS, sum));
        }
    }

    private static final class Disk extends BlockDevice {
        Disk() {
            super(400);
        }

        int faultOf(int operation, int m, int x) {
            if (operation == IOC && m != 0) {
                return NOT_ABLE;
            }
            return x < 0 || x >= BLOCKS ? NO_MORE : NO_FAULT;
        }

        void work(int operation, int m, int x, Memory memory) {
            if (operation == IN) {
                readBlock(x, m);
            } else if (operation == OUT) {
                writeBlock(x, m, memory);
            }
        }

        int tell() {
            return NONE;
        }
    }

    /** Cards lie in a ring of rows, each already turned into its words. */
    private static final class Reader extends Device {
        private static final int MOST_CARDS = 100;
        private static final int CARD_WORDS = 16;

        private final int[] cards = new int[MOST_CARDS * CARD_WORDS];
        private int first = 0;
        private int left = 0;

        Reader() {
            super(CARD_WORDS, 1000);
        }

        boolean hasRoom() {
            return left < MOST_CARDS;
        }

        void accept(InputTape input) {
            int row = (first + left) % MOST_CARDS * CARD_WORDS;
            for (int k = 0; k < CARD_WORDS && row + k < cards.length; k++) {
                cards[row + k] = wordOf(input, k * BYTES_IN_WORD);
            }
            left++;
        }

        int faultOf(int operation, int m, int x) {
            if (operation != IN) {
                return NOT_ABLE;
            }
            return left == 0 ? NO_MORE : NO_FAULT;
        }

        void work(int operation, int m, int x, Memory memory) {
            int row = first * CARD_WORDS;
            for (int k = 0; k < brought.length && row + k < cards.length; k++) {
                brought[k] = cards[row + k];
            }
            first = (first + 1) % MOST_CARDS;
            left--;
            bringTo(m);
        }

        int tell() {
            return left;
        }

        private static int wordOf(InputTape input, int from) {
            int sum = 0;
            for (int k = 0; k < BYTES_IN_WORD; k++) {
                sum = (sum << BITS_IN_BYTE) | input.codeAt(from + k);
            }
            return sum;
        }
    }

    private static final class Writer extends Device {
        private static final int MOST_LINES = 300;

        /** A line's row is made when it is written, as long as the line is. */
        private final byte[][] lines = new byte[MOST_LINES][];
        private final boolean hasPages;
        private int written = 0;

        Writer(int words, int duration, boolean hasPages) {
            super(words, duration);
            this.hasPages = hasPages;
        }

        int letterAt(int k, int i) {
            if (k < 0 || k >= written || k >= lines.length) {
                return NONE;
            }
            byte[] line = lines[k];
            return line == null || i < 0 || i >= line.length ? NONE : line[i];
        }

        int faultOf(int operation, int m, int x) {
            boolean able = operation == OUT || (operation == IOC && hasPages && m == 0);
            return able ? NO_FAULT : NOT_ABLE;
        }

        void work(int operation, int m, int x, Memory memory) {
            if (written >= lines.length) {
                return;
            }
            lines[written] = operation == IOC ? formFeedLine() : lineOf(m, memory);
            written++;
        }

        int tell() {
            return written;
        }

        private static byte[] formFeedLine() {
            byte[] line = new byte[1];
            line[0] = (byte) FORM_FEED;
            return line;
        }

        private byte[] lineOf(int address, Memory memory) {
            byte[] line = new byte[lengthWithoutBlanks(address, memory)];
            for (int i = 0; i < line.length; i++) {
                line[i] = (byte) letterOf(memory.byteAt(address, i));
            }
            return line;
        }

        private int lengthWithoutBlanks(int address, Memory memory) {
            int length = Math.max(0, words) * BYTES_IN_WORD;
            while (length > 0 && memory.byteAt(address, length - 1) == 0) {
                length--;
            }
            return length;
        }
    }
}
