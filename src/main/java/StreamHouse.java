import java.util.Arrays;

/** A house for streams of rows: a job as a text, its run by turns, its marks, and what came out. */
public final class StreamHouse {
    public static final int NONE = -1;

    private static final int MOST_BYTES = 1500;
    private static final int MOST_STATEMENTS = 16;
    private static final int MOST_COLUMNS = 8;
    private static final int MOST_SOURCE_COLUMNS = 4;
    private static final int MOST_AGGREGATES = 4;
    private static final int MOST_VALUES_OF_MATCH = 4;
    private static final int MOST_OUTPUTS = 4;
    private static final int MOST_OPEN = 10;
    private static final int MOST_DIGITS = 18;
    private static final int MOST_LETTERS = 6;
    private static final int SOURCES = 4;
    private static final int MOST_GIVEN = 64;
    private static final int MOST_TIME = 1000000;
    private static final int MOST_PARALLEL = 4;
    private static final int MOST_ROOM = 8;
    private static final int MOST_TURNS = 5000;
    private static final int MOST_RECORDS = 4000;
    private static final int MOST_BOXED = 4000;
    private static final int MOST_OUT = 2000;
    private static final int MOST_SETS = 30000;
    private static final int MOST_PASS_ROWS = 4000;
    private static final int MOST_TASKS = MOST_STATEMENTS * MOST_PARALLEL;
    private static final int MOST_CHANNELS = MOST_TASKS * 2 * MOST_PARALLEL;
    private static final long ENDLESS = 1L << 40;

    private static final int SOURCE = 0;
    private static final int FILTER = 1;
    private static final int MAP = 2;
    private static final int UNION = 3;
    private static final int SPANS = 4;
    private static final int GAPS = 5;
    private static final int JOIN = 6;
    private static final int LOOK = 7;
    private static final int MATCH = 8;
    private static final int UNIQUE = 9;
    private static final int TOP = 10;
    private static final int OUTPUT = 11;

    private final byte[] tape = new byte[MOST_BYTES];
    private int tapeLength = 0;
    private int faultOfText = 0;
    private final Parser parser = new Parser();
    private Job current = new Job();
    private Job spare = new Job();
    private final Pool pool = new Pool();
    private final Run run = new Run(pool);
    private final Pass pass = new Pass(pool);

    public StreamHouse() {
    }

    public int feed(long bytes, int n) throws IllegalArgumentException, UnsupportedOperationException {
        if (n < 1 || n > 8) {
            throw new IllegalArgumentException();
        }
        if (tapeLength + n > MOST_BYTES) {
            throw new UnsupportedOperationException();
        }
        for (int i = n - 1; i >= 0; i--) {
            tape[tapeLength] = (byte) (bytes >>> (8 * i));
            tapeLength++;
        }
        return tapeLength;
    }

    public int job() throws IllegalStateException {
        int length = tapeLength;
        tapeLength = 0;
        if (run.disk.down) {
            throw new IllegalStateException();
        }
        faultOfText = parser.read(tape, length, spare);
        if (faultOfText != 0) {
            return -1 - parser.place;
        }
        Job before = current;
        current = spare;
        spare = before;
        run.end();
        return current.count;
    }

    public int fault() {
        return faultOfText;
    }

    public long operator(int operator, int what) throws IndexOutOfBoundsException, IllegalArgumentException {
        if (operator < 0 || operator >= current.count) {
            throw new IndexOutOfBoundsException();
        }
        if (what < 0 || what > 3 + MOST_COLUMNS) {
            throw new IllegalArgumentException();
        }
        Op op = current.ops[operator];
        switch (what) {
            case 0:
                return op.kind;
            case 1:
                return op.first;
            case 2:
                return op.second;
            case 3:
                return op.width;
            default:
                return what - 4 < op.width ? op.names[what - 4] : 0;
        }
    }

    public int give(int source, int time, long a, long b, long c, long d)
            throws IndexOutOfBoundsException, IllegalStateException, IllegalArgumentException,
            UnsupportedOperationException {
        if (source < 0 || source >= SOURCES) {
            throw new IndexOutOfBoundsException();
        }
        if (current.sourceOps[source] == NONE || current.closed[source]) {
            throw new IllegalStateException();
        }
        if (time < 0 || time > MOST_TIME) {
            throw new IllegalArgumentException();
        }
        if (current.givenCount[source] >= MOST_GIVEN) {
            throw new UnsupportedOperationException();
        }
        int place = current.givenCount[source];
        long[] rows = current.given[source];
        int at = place * Job.GIVEN_WIDTH;
        rows[at] = time;
        rows[at + 1] = a;
        rows[at + 2] = b;
        rows[at + 3] = c;
        rows[at + 4] = d;
        current.givenCount[source] = place + 1;
        return place;
    }

    public boolean close(int source) throws IndexOutOfBoundsException, IllegalStateException {
        if (source < 0 || source >= SOURCES) {
            throw new IndexOutOfBoundsException();
        }
        if (current.sourceOps[source] == NONE) {
            throw new IllegalStateException();
        }
        boolean open = !current.closed[source];
        current.closed[source] = true;
        return open;
    }

    public int start(int parallel, int room, long seed) throws IllegalStateException, IllegalArgumentException {
        if (current.count == 0 || run.disk.down) {
            throw new IllegalStateException();
        }
        if (parallel < 1 || parallel > MOST_PARALLEL || room < 1 || room > MOST_ROOM) {
            throw new IllegalArgumentException();
        }
        run.begin(current, parallel, room, seed);
        return run.taskCount;
    }

    public int turn(int n) throws IllegalStateException, IllegalArgumentException {
        needRun();
        if (n < 1 || n > MOST_TURNS) {
            throw new IllegalArgumentException();
        }
        int took = 0;
        for (int i = 0; i < n && !run.broken && !run.disk.down; i++) {
            took += run.playTurn();
        }
        return took;
    }

    public int mark() throws IllegalStateException {
        needRun();
        if (run.broken || run.disk.open != 0) {
            throw new IllegalStateException();
        }
        return run.disk.ask();
    }

    public int fail() throws IllegalStateException {
        needRun();
        run.beginAgain(run.parallel);
        return run.disk.latest;
    }

    public int rescale(int parallel) throws IllegalStateException, IllegalArgumentException {
        needRun();
        if (parallel < 1 || parallel > MOST_PARALLEL) {
            throw new IllegalArgumentException();
        }
        run.beginAgain(parallel);
        return run.disk.latest;
    }

    public void crash(int n) throws IllegalStateException, IllegalArgumentException {
        if (run.disk.down) {
            throw new IllegalStateException();
        }
        if (n < NONE) {
            throw new IllegalArgumentException();
        }
        run.disk.powerLeft = n;
    }

    public int reopen() throws IllegalStateException {
        if (!run.disk.down) {
            throw new IllegalStateException();
        }
        run.disk.powerReturns();
        run.beginAgain(run.parallel);
        return run.disk.latest;
    }

    public int visible(int output) throws IndexOutOfBoundsException {
        needOutput(output);
        return run.visibleRows[output].size;
    }

    public long row(int output, int i, int column) throws IndexOutOfBoundsException {
        Cell cell = visibleRow(output, i);
        if (column < NONE || column >= current.outputOp(output).width) {
            throw new IndexOutOfBoundsException();
        }
        return column == NONE ? cell.time : cell.columns[column];
    }

    public int lineage(int output, int i, int k) throws IndexOutOfBoundsException {
        Cell cell = visibleRow(output, i);
        if (k == NONE) {
            return pool.membersOf(cell.set);
        }
        int member = pool.memberOf(cell.set, k);
        if (member == NONE) {
            throw new IndexOutOfBoundsException();
        }
        return member;
    }

    public boolean onePass() throws IllegalStateException {
        if (current.count == 0) {
            throw new IllegalStateException();
        }
        boolean right = pass.isRight(current, run.visibleRows);
        pass.forget();
        return right;
    }

    public long task(int task, int what)
            throws IndexOutOfBoundsException, IllegalStateException, IllegalArgumentException {
        if (task < 0 || task >= run.taskCount) {
            throw new IndexOutOfBoundsException();
        }
        needWholeRun();
        if (what < 0 || what > 8) {
            throw new IllegalArgumentException();
        }
        return run.ofTask(run.tasks[task], what);
    }

    public long channel(int channel, int what)
            throws IndexOutOfBoundsException, IllegalStateException, IllegalArgumentException {
        if (channel < 0 || channel >= run.channelCount) {
            throw new IndexOutOfBoundsException();
        }
        needWholeRun();
        if (what < 0 || what > 5) {
            throw new IllegalArgumentException();
        }
        return run.channels[channel].ofChannel(what);
    }

    public int records(int operator, long key)
            throws IndexOutOfBoundsException, IllegalStateException, IllegalArgumentException {
        if (operator < 0 || operator >= current.count) {
            throw new IndexOutOfBoundsException();
        }
        needRun();
        if (!isKeyed(current.ops[operator].kind)) {
            throw new IllegalArgumentException();
        }
        return run.disk.recordsOf(operator, key);
    }

    public int told(int what) {
        switch (what) {
            case 0:
                return current.count;
            case 5:
                return run.disk.latest;
            case 6:
                return run.disk.open;
            case 9:
                return run.disk.down ? 1 : 0;
            case 12:
                return pool.sets;
            case 13:
                return current.outputs;
            case 14:
                return tapeLength;
            default:
                return run.toldOfRun(what);
        }
    }

    public void clear() {
        tapeLength = 0;
        faultOfText = 0;
        current.forget();
        run.end();
        run.disk.powerReturns();
    }

    private void needRun() {
        if (run.taskCount == 0 || run.disk.down) {
            throw new IllegalStateException();
        }
    }

    private void needWholeRun() {
        if (run.disk.down || run.broken) {
            throw new IllegalStateException();
        }
    }

    private void needOutput(int output) {
        if (output < 0 || output >= current.outputs) {
            throw new IndexOutOfBoundsException();
        }
    }

    private Cell visibleRow(int output, int i) {
        needOutput(output);
        Cell cell = run.visibleRows[output].at(i);
        if (cell == null) {
            throw new IndexOutOfBoundsException();
        }
        return cell;
    }

    private static boolean isKeyed(int kind) {
        return kind >= SPANS && kind <= UNIQUE;
    }

    private static boolean hasOneTask(int kind) {
        return kind == SOURCE || kind == TOP || kind == OUTPUT;
    }

    private static int partOf(long key, int parallel) {
        int group = (int) ((key * 0x9E3779B97F4A7C15L) >>> 60);
        return group * parallel / 16;
    }

    private static Chain[] newChains(int n) {
        Chain[] chains = new Chain[Math.max(0, n)];
        for (int i = 0; i < chains.length; i++) {
            chains[i] = new Chain();
        }
        return chains;
    }

    /**
     * A row, a thing on its way, or a record of a task's state. One class for all of them, so that
     * one pool of used ones serves them all.
     */
    private static final class Cell {
        static final int ROW = 0;
        static final int WATERMARK = 1;
        static final int BARRIER = 2;

        final long[] columns = new long[MOST_COLUMNS];
        Cell next;
        /** Of a thing what it is; of a match's row its VALUES as bits; of a PARTIAL one how many it went through. */
        int sort;
        /** Of a thing in a box the channel that it goes to. */
        int goal;
        int set;
        /** Of a row or a watermark its time; of a span or a session its last one; of a KEY when it went on. */
        long time;
        /** Of a session or a PARTIAL one its first time; of a row that waits in a top its span's last time. */
        long from;
        long key;
    }

    /** Cells in a row, one behind the other. */
    private static final class Chain {
        static final int AS_THEY_CAME = 0;
        static final int BY_ROWS = 1;
        static final int BY_FOLDS = 2;
        static final int BY_TOP = 3;

        Cell first;
        Cell last;
        int size;

        void add(Cell cell) {
            cell.next = null;
            if (last == null) {
                first = cell;
            } else {
                last.next = cell;
            }
            last = cell;
            size++;
        }

        Cell takeFirst() {
            return first == null ? null : cutBehind(null);
        }

        /** Takes the cell behind another one out of the chain, the first cell for null. */
        Cell cutBehind(Cell before) {
            Cell cut = before == null ? first : before.next;
            if (cut == null) {
                return null;
            }
            if (before == null) {
                first = cut.next;
            } else {
                before.next = cut.next;
            }
            if (last == cut) {
                last = before;
            }
            size--;
            cut.next = null;
            return cut;
        }

        /** Puts a cell behind all that are not greater, so that equal ones stay as they came. */
        void insert(Cell cell, int order, int width) {
            if (last == null || compare(last, cell, order, width) <= 0) {
                add(cell);
                return;
            }
            Cell before = null;
            for (Cell c = first; c != null && compare(c, cell, order, width) <= 0; c = c.next) {
                before = c;
            }
            if (before == null) {
                cell.next = first;
                first = cell;
            } else {
                cell.next = before.next;
                before.next = cell;
            }
            size++;
        }

        void moveAllTo(Chain other) {
            if (first == null) {
                return;
            }
            if (other.last == null) {
                other.first = first;
            } else {
                other.last.next = first;
            }
            other.last = last;
            other.size += size;
            first = null;
            last = null;
            size = 0;
        }

        Cell at(int i) {
            if (i < 0 || i >= size) {
                return null;
            }
            Cell cell = first;
            for (int k = 0; k < i && cell != null; k++) {
                cell = cell.next;
            }
            return cell;
        }

        static int compare(Cell a, Cell b, int order, int width) {
            int c = 0;
            if (order == AS_THEY_CAME) {
                return 0;
            }
            if (order == BY_TOP) {
                c = Long.compare(a.from, b.from);
                c = c != 0 ? c : Long.compare(b.key, a.key);
            }
            c = c != 0 ? c : Long.compare(a.time, b.time);
            if (order == BY_FOLDS) {
                c = c != 0 ? c : Long.compare(a.key, b.key);
                return c != 0 ? c : Long.compare(a.from, b.from);
            }
            for (int i = 0; i < width && i < MOST_COLUMNS && c == 0; i++) {
                c = Long.compare(a.columns[i], b.columns[i]);
            }
            return c;
        }
    }

    /** Cells that are free to be used again, and the SETS of a run. */
    private static final class Pool {
        /** A SET has a bit for each place of each source: a number of 64 bits for each source. */
        static final int WORDS = SOURCES;

        Cell free;
        int sets;
        long[] words = new long[64 * WORDS];

        Cell fresh() {
            Cell cell = free;
            if (cell == null) {
                cell = new Cell();
            } else {
                free = cell.next;
            }
            cell.next = null;
            cell.sort = Cell.ROW;
            cell.goal = NONE;
            cell.set = NONE;
            cell.time = 0;
            cell.from = 0;
            cell.key = 0;
            return cell;
        }

        Cell copyOf(Cell other) {
            Cell cell = fresh();
            cell.sort = other.sort;
            cell.set = other.set;
            cell.time = other.time;
            cell.from = other.from;
            cell.key = other.key;
            System.arraycopy(other.columns, 0, cell.columns, 0, MOST_COLUMNS);
            return cell;
        }

        void release(Cell cell) {
            cell.next = free;
            free = cell;
        }

        void releaseAll(Chain chain) {
            if (chain.last != null) {
                chain.last.next = free;
                free = chain.first;
            }
            chain.first = null;
            chain.last = null;
            chain.size = 0;
        }

        void copyAll(Chain from, Chain to) {
            for (Cell c = from.first; c != null; c = c.next) {
                to.add(copyOf(c));
            }
        }

        int setOfRow(int source, int place) {
            int set = newSet();
            words[set * WORDS + source] = 1L << place;
            return set;
        }

        int together(int a, int b) {
            if (a == b || a < 0 || b < 0) {
                return a;
            }
            int set = newSet();
            for (int i = 0; i < WORDS; i++) {
                words[set * WORDS + i] = words[a * WORDS + i] | words[b * WORDS + i];
            }
            return set;
        }

        private int newSet() {
            if (sets >= MOST_SETS) {
                throw new IllegalStateException();
            }
            int at = sets * WORDS;
            if (at + WORDS > words.length) {
                words = Arrays.copyOf(words, 2 * words.length);
            }
            for (int i = 0; i < WORDS; i++) {
                words[at + i] = 0;
            }
            sets++;
            return sets - 1;
        }

        int membersOf(int set) {
            int members = 0;
            for (int i = 0; i < WORDS && set >= 0; i++) {
                members += Long.bitCount(words[set * WORDS + i]);
            }
            return members;
        }

        int memberOf(int set, int k) {
            int before = 0;
            for (int i = 0; i < WORDS * 64 && set >= 0 && k >= 0; i++) {
                if ((words[set * WORDS + i / 64] >>> (i % 64) & 1L) != 0) {
                    if (before == k) {
                        return i;
                    }
                    before++;
                }
            }
            return NONE;
        }
    }

    /** What a statement says. */
    private static final class Op {
        static final int COUNT = 0;
        static final int SUM = 1;
        static final int LEAST = 2;
        static final int MOST = 3;

        final long[] names = new long[MOST_COLUMNS];
        final int[] values = new int[MOST_COLUMNS];
        final int[] aggregates = new int[MOST_AGGREGATES];
        int width;
        int valueCount;
        long name;
        int kind;
        int first;
        int second;
        /** Of a source or an output its number, of a top how many. */
        int number;
        int lag;
        /** Of a fold by gaps its gap. */
        int span;
        int step;
        int byFirst;
        int bySecond;
        /** Of a join the first number of its within. */
        int least;
        int within;

        void forget() {
            width = 0;
            valueCount = 0;
            name = 0;
            kind = SOURCE;
            first = NONE;
            second = NONE;
            number = 0;
            lag = 0;
            span = 1;
            step = 1;
            byFirst = 0;
            bySecond = 0;
            least = 0;
            within = 0;
        }

        int find(long column) {
            for (int i = 0; i < width; i++) {
                if (names[i] == column) {
                    return i;
                }
            }
            return NONE;
        }

        void addColumn(long column) {
            if (width < MOST_COLUMNS) {
                names[width] = column;
                width++;
            }
        }

        void addColumnsOf(Op other) {
            for (int i = 0; i < other.width; i++) {
                addColumn(other.names[i]);
            }
        }

        boolean sharesColumnWith(Op other) {
            for (int i = 0; i < width; i++) {
                if (other.find(names[i]) != NONE) {
                    return true;
                }
            }
            return false;
        }

        boolean hasColumnsOf(Op other) {
            for (int i = 0; i < width && i < other.width; i++) {
                if (names[i] != other.names[i]) {
                    return false;
                }
            }
            return width == other.width;
        }
    }

    /** A job: its operators, their VALUES as a program for a stack, and what is given to its sources. */
    private static final class Job {
        static final int GIVEN_WIDTH = 1 + MOST_SOURCE_COLUMNS;
        /** Ten open ones with three operators that wait for their second V each stay below this. */
        static final int STACK = 64;

        static final int END = 0;
        static final int PUSH = 1;
        static final int COLUMN = 2;
        static final int TIME = 3;
        static final int NEGATE = 4;
        static final int NOT = 5;
        static final int TRUTH = 6;
        static final int JUMP = 7;
        static final int JUMP_IF_ZERO = 8;
        static final int AND = 9;
        static final int OR = 10;
        static final int PLUS = 11;
        static final int MINUS = 12;
        static final int TIMES = 13;
        static final int DIVIDE = 14;
        static final int REST = 15;
        static final int BELOW = 16;
        static final int ABOVE = 17;
        static final int EQUAL = 18;

        final Op[] ops = new Op[MOST_STATEMENTS];
        int count;
        int outputs;
        final int[] outputOps = new int[MOST_OUTPUTS];
        final int[] sourceOps = new int[SOURCES];
        int[] code = new int[64];
        long[] numbers = new long[64];
        int length;
        final long[] stack = new long[STACK];
        int top;
        boolean bad;
        final long[][] given = new long[SOURCES][MOST_GIVEN * GIVEN_WIDTH];
        final int[] givenCount = new int[SOURCES];
        final boolean[] closed = new boolean[SOURCES];

        Job() {
            for (int i = 0; i < MOST_STATEMENTS; i++) {
                ops[i] = new Op();
            }
            Arrays.fill(sourceOps, NONE);
        }

        void forget() {
            count = 0;
            outputs = 0;
            length = 0;
            Arrays.fill(sourceOps, NONE);
            Arrays.fill(givenCount, 0);
            for (int i = 0; i < SOURCES; i++) {
                closed[i] = false;
            }
        }

        int find(long name) {
            for (int i = 0; i < count; i++) {
                if (ops[i].kind != OUTPUT && ops[i].name == name) {
                    return i;
                }
            }
            return NONE;
        }

        Op outputOp(int output) {
            return ops[outputOps[output]];
        }

        /** A row as it was given. */
        void readInto(Cell cell, int source, int place) {
            int at = place * GIVEN_WIDTH;
            cell.time = given[source][at];
            System.arraycopy(given[source], at + 1, cell.columns, 0, MOST_SOURCE_COLUMNS);
        }

        int emit(int what, long number) {
            if (length >= code.length) {
                code = Arrays.copyOf(code, 2 * length);
                numbers = Arrays.copyOf(numbers, 2 * length);
            }
            code[length] = what;
            numbers[length] = number;
            length++;
            return length - 1;
        }

        /** A jump that was emitted goes to what comes next. */
        void landHere(int jump) {
            numbers[jump] = length;
        }

        /** Works a VALUE out of a row; bad tells behind it whether it is BAD. */
        long value(int program, Cell row) {
            bad = false;
            top = 0;
            int at = program;
            for (int i = 0; i < length && at >= 0 && at < length && code[at] != END && !bad; i++) {
                if (code[at] < PLUS) {
                    at = step(at, row);
                } else {
                    long second = pop();
                    push(calculate(code[at], pop(), second));
                    at++;
                }
            }
            return pop();
        }

        private int step(int at, Cell row) {
            long number = numbers[at];
            switch (code[at]) {
                case PUSH:
                    push(number);
                    break;
                case COLUMN:
                    push(row.columns[(int) number & (MOST_COLUMNS - 1)]);
                    break;
                case TIME:
                    push(row.time);
                    break;
                case NEGATE:
                    push(-pop());
                    break;
                case NOT:
                    push(pop() == 0 ? 1 : 0);
                    break;
                case TRUTH:
                    push(pop() == 0 ? 0 : 1);
                    break;
                case JUMP:
                    return (int) number;
                case JUMP_IF_ZERO:
                    return pop() == 0 ? (int) number : at + 1;
                default:
                    boolean holds = pop() != 0;
                    if (holds == (code[at] == OR)) {
                        push(holds ? 1 : 0);
                        return (int) number;
                    }
                    break;
            }
            return at + 1;
        }

        private long calculate(int what, long a, long b) {
            switch (what) {
                case PLUS:
                    return a + b;
                case MINUS:
                    return a - b;
                case TIMES:
                    return a * b;
                case BELOW:
                    return a < b ? 1 : 0;
                case ABOVE:
                    return a > b ? 1 : 0;
                case EQUAL:
                    return a == b ? 1 : 0;
                default:
                    if (b == 0) {
                        bad = true;
                        return 0;
                    }
                    return what == DIVIDE ? a / b : a % b;
            }
        }

        private void push(long v) {
            if (top < STACK) {
                stack[top] = v;
                top++;
            }
        }

        private long pop() {
            if (top == 0) {
                return 0;
            }
            top--;
            return stack[top];
        }
    }

    /**
     * Reads a text as a job. What is looked for at a token is looked for before the next one is read,
     * as the first FAULT is the one that counts.
     */
    private static final class Parser {
        /** In the order in which the document tells them, a byte for each letter, as NAMES are kept. */
        private static final long[] KEYWORDS = {
            0x736f75726365L, 0x6c6167L, 0x66696c746572L, 0x6d6170L, 0x756e696f6eL, 0x666f6c64L, 0x6279L,
            0x7370616eL, 0x73746570L, 0x676170L, 0x6a6f696eL, 0x77697468696eL, 0x6c6f6f6bL, 0x6d61746368L,
            0x7468656eL, 0x756e69717565L, 0x746f70L, 0x6f7574707574L, 0x636f756e74L, 0x73756dL, 0x6c65617374L,
            0x6d6f7374L, 0x74696d65L};
        private static final int SOURCE_WORD = 0;
        private static final int LAG_WORD = 1;
        private static final int FILTER_WORD = 2;
        private static final int MAP_WORD = 3;
        private static final int UNION_WORD = 4;
        private static final int FOLD_WORD = 5;
        private static final int BY_WORD = 6;
        private static final int SPAN_WORD = 7;
        private static final int STEP_WORD = 8;
        private static final int GAP_WORD = 9;
        private static final int JOIN_WORD = 10;
        private static final int WITHIN_WORD = 11;
        private static final int LOOK_WORD = 12;
        private static final int MATCH_WORD = 13;
        private static final int THEN_WORD = 14;
        private static final int UNIQUE_WORD = 15;
        private static final int TOP_WORD = 16;
        private static final int OUTPUT_WORD = 17;
        private static final int COUNT_WORD = 18;
        private static final int MOST_WORD = 21;
        private static final int TIME_WORD = 22;
        private static final long FROM_NAME = 0x66726f6dL;
        private static final long TO_NAME = 0x746fL;
        private static final long RANK_NAME = 0x72616e6bL;

        private static final int END_TOKEN = 0;
        private static final int NAME_TOKEN = 1;
        private static final int KEYWORD_TOKEN = 2;
        private static final int LONG_WORD_TOKEN = 3;
        private static final int NUMBER_TOKEN = 4;
        private static final int SIGN_TOKEN = 5;

        private static final int NO_TOKEN = 1;
        private static final int LONG_NUMBER = 2;
        private static final int EARLY_END = 3;
        private static final int WRONG_TOKEN = 4;
        private static final int UNKNOWN_NAME = 5;
        private static final int NAME_AGAIN = 6;
        private static final int OUT_OF_BOUNDS = 7;
        private static final int WRONG_COLUMNS = 8;
        private static final int TOO_MUCH = 9;

        private static final int LOOSEST = 0;
        private static final int COMPARING = 1;
        private static final int TIGHTEST = 3;

        private byte[] text = new byte[0];
        private int length;
        private int at;
        private int token;
        /** Of a NAME its letters, of a KEYWORD which it is, of a NUMBER that, of a sign its byte. */
        private long value;
        int place;
        private int fault;
        private Job job;
        private Op op;

        /** The FAULT of a text, or 0; then the job is what it says. */
        int read(byte[] bytes, int count, Job into) {
            text = bytes;
            length = Math.min(count, bytes.length);
            at = 0;
            fault = 0;
            job = into;
            job.forget();
            try {
                next();
                for (int i = 0; i <= MOST_STATEMENTS && (token != END_TOKEN || job.outputs == 0); i++) {
                    operatorText(statementHead());
                    wantSign(';');
                    job.count++;
                }
            } catch (IllegalArgumentException e) {
                return fault;
            }
            return 0;
        }

        /** What stands before an operator; whether it is an output, which has no NAME. */
        private boolean statementHead() {
            boolean output = isWord(OUTPUT_WORD);
            if (!output && token != NAME_TOKEN) {
                cannotStand();
            }
            if (!output && job.find(value) != NONE) {
                refuse(NAME_AGAIN);
            }
            if (output && job.outputs == MOST_OUTPUTS) {
                refuse(WRONG_COLUMNS);
            }
            if (job.count == MOST_STATEMENTS) {
                refuse(TOO_MUCH);
            }
            op = job.ops[job.count];
            op.forget();
            if (!output) {
                op.name = value;
                next();
                wantSign('=');
            }
            return output;
        }

        private void operatorText(boolean output) {
            if (token != KEYWORD_TOKEN || isWord(OUTPUT_WORD) != output) {
                cannotStand();
            }
            switch ((int) value) {
                case SOURCE_WORD:
                    sourceText();
                    break;
                case FILTER_WORD:
                    filterText();
                    break;
                case MAP_WORD:
                    mapText();
                    break;
                case UNION_WORD:
                    unionText();
                    break;
                case FOLD_WORD:
                    foldText();
                    aggregates();
                    break;
                case JOIN_WORD:
                    pairText(JOIN);
                    break;
                case LOOK_WORD:
                    pairText(LOOK);
                    break;
                case MATCH_WORD:
                    matchText();
                    break;
                case UNIQUE_WORD:
                    uniqueText();
                    break;
                case TOP_WORD:
                    topText();
                    break;
                case OUTPUT_WORD:
                    outputText();
                    break;
                default:
                    cannotStand();
                    break;
            }
        }

        private void sourceText() {
            next();
            op.kind = SOURCE;
            op.number = number(0, SOURCES - 1);
            if (job.sourceOps[op.number] != NONE) {
                refuse(OUT_OF_BOUNDS);
            }
            job.sourceOps[op.number] = job.count;
            next();
            wantSign('(');
            newColumn(MOST_SOURCE_COLUMNS);
            for (int i = 0; i < MOST_SOURCE_COLUMNS && token == NAME_TOKEN; i++) {
                newColumn(MOST_SOURCE_COLUMNS);
            }
            wantSign(')');
            wantWord(LAG_WORD);
            op.lag = number(0, 1000);
            next();
        }

        private void filterText() {
            next();
            firstInput(FILTER);
            next();
            op.addColumnsOf(job.ops[op.first]);
            wantSign(':');
            newValue();
            value(0);
            job.emit(Job.END, 0);
        }

        private void mapText() {
            next();
            firstInput(MAP);
            next();
            wantSign(':');
            for (int i = 0; i <= MOST_COLUMNS; i++) {
                newColumn(MOST_COLUMNS);
                wantSign('=');
                newValue();
                value(0);
                job.emit(Job.END, 0);
                if (!isSign(',')) {
                    return;
                }
                next();
            }
        }

        private void unionText() {
            next();
            firstInput(UNION);
            next();
            op.second = input();
            op.addColumnsOf(job.ops[op.first]);
            if (!op.hasColumnsOf(job.ops[op.second])) {
                refuse(WRONG_COLUMNS);
            }
            next();
        }

        private void foldText() {
            next();
            firstInput(SPANS);
            next();
            wantWord(BY_WORD);
            op.byFirst = column(job.ops[op.first]);
            op.addColumn(value);
            next();
            if (isWord(GAP_WORD)) {
                next();
                op.kind = GAPS;
                op.span = number(1, 1000);
                next();
            } else {
                wantWord(SPAN_WORD);
                op.span = number(1, 1000);
                next();
                wantWord(STEP_WORD);
                op.step = number(1, 1000);
                if (op.step > op.span || op.span > 8 * op.step) {
                    refuse(OUT_OF_BOUNDS);
                }
                next();
            }
            wantSign(':');
        }

        private void aggregates() {
            for (int i = 0; i <= MOST_AGGREGATES; i++) {
                newColumn(1 + MOST_AGGREGATES);
                wantSign('=');
                if (token != KEYWORD_TOKEN || value < COUNT_WORD || value > MOST_WORD) {
                    cannotStand();
                }
                int what = Op.COUNT + (int) value - COUNT_WORD;
                op.aggregates[op.valueCount] = what;
                next();
                newValue();
                if (what != Op.COUNT) {
                    value(0);
                    job.emit(Job.END, 0);
                }
                if (!isSign(',')) {
                    return;
                }
                next();
            }
        }

        /** A join or a look. */
        private void pairText(int kind) {
            next();
            firstInput(kind);
            next();
            Op first = job.ops[op.first];
            op.second = input();
            Op second = job.ops[op.second];
            if (first.sharesColumnWith(second)) {
                refuse(NAME_AGAIN);
            }
            if (first.width + second.width > MOST_COLUMNS) {
                refuse(WRONG_COLUMNS);
            }
            op.addColumnsOf(first);
            op.addColumnsOf(second);
            next();
            wantWord(BY_WORD);
            op.byFirst = column(first);
            next();
            op.bySecond = column(second);
            next();
            if (kind == JOIN) {
                wantWord(WITHIN_WORD);
                op.least = signedNumber();
                next();
                op.within = signedNumber();
                if (op.least > op.within) {
                    refuse(OUT_OF_BOUNDS);
                }
                next();
            }
        }

        private void matchText() {
            next();
            firstInput(MATCH);
            next();
            wantWord(BY_WORD);
            op.byFirst = column(job.ops[op.first]);
            if (value == FROM_NAME || value == TO_NAME) {
                refuse(NAME_AGAIN);
            }
            op.addColumn(value);
            op.addColumn(FROM_NAME);
            op.addColumn(TO_NAME);
            next();
            wantSign(':');
            for (int i = 0; i < MOST_VALUES_OF_MATCH; i++) {
                newValue();
                value(0);
                job.emit(Job.END, 0);
                if (i > 0 && isWord(WITHIN_WORD)) {
                    break;
                }
                if (!isWord(THEN_WORD)) {
                    cannotStand();
                }
                if (op.valueCount == MOST_VALUES_OF_MATCH) {
                    refuse(WRONG_COLUMNS);
                }
                next();
            }
            wantWord(WITHIN_WORD);
            op.within = number(0, 1000);
            next();
        }

        private void uniqueText() {
            next();
            firstInput(UNIQUE);
            next();
            op.addColumnsOf(job.ops[op.first]);
            wantWord(BY_WORD);
            op.byFirst = column(op);
            next();
            wantWord(WITHIN_WORD);
            op.within = number(1, 1000);
            next();
        }

        private void topText() {
            next();
            op.number = number(1, 9);
            next();
            firstInput(TOP);
            Op first = job.ops[op.first];
            if (first.find(RANK_NAME) != NONE) {
                refuse(NAME_AGAIN);
            }
            if (first.width == MOST_COLUMNS) {
                refuse(WRONG_COLUMNS);
            }
            op.addColumnsOf(first);
            op.addColumn(RANK_NAME);
            next();
            wantWord(BY_WORD);
            op.byFirst = column(first);
            next();
            wantWord(SPAN_WORD);
            op.span = number(1, 1000);
            next();
        }

        private void outputText() {
            next();
            firstInput(OUTPUT);
            next();
            op.addColumnsOf(job.ops[op.first]);
            op.number = job.outputs;
            job.outputOps[job.outputs] = job.count;
            job.outputs++;
        }

        private void firstInput(int kind) {
            op.kind = kind;
            op.first = input();
        }

        private int input() {
            if (token != NAME_TOKEN) {
                cannotStand();
            }
            int found = job.find(value);
            if (found == NONE) {
                refuse(UNKNOWN_NAME);
            }
            return found;
        }

        private int column(Op of) {
            if (token != NAME_TOKEN) {
                cannotStand();
            }
            int found = of.find(value);
            if (found == NONE) {
                refuse(UNKNOWN_NAME);
            }
            return found;
        }

        private void newColumn(int most) {
            if (token != NAME_TOKEN) {
                cannotStand();
            }
            if (op.find(value) != NONE) {
                refuse(NAME_AGAIN);
            }
            if (op.width >= most) {
                refuse(WRONG_COLUMNS);
            }
            op.addColumn(value);
            next();
        }

        private int number(int least, int most) {
            if (token != NUMBER_TOKEN) {
                cannotStand();
            }
            if (value < least || value > most) {
                refuse(OUT_OF_BOUNDS);
            }
            return (int) value;
        }

        private int signedNumber() {
            boolean below = isSign('-');
            if (below) {
                next();
            }
            int number = number(0, 1000);
            return below ? -number : number;
        }

        private void newValue() {
            op.values[op.valueCount] = job.length;
            op.valueCount++;
        }

        private void value(int open) {
            binary(LOOSEST, open);
            if (!isSign('?')) {
                return;
            }
            goDeeper(open);
            next();
            int toSecond = job.emit(Job.JUMP_IF_ZERO, 0);
            value(open + 1);
            wantSign(':');
            int toEnd = job.emit(Job.JUMP, 0);
            job.landHere(toSecond);
            value(open + 1);
            job.landHere(toEnd);
        }

        private void binary(int level, int open) {
            if (level > TIGHTEST) {
                prefixed(open);
                return;
            }
            binary(level + 1, open);
            for (int i = 0; i < MOST_BYTES && levelOfToken() == level; i++) {
                if (level == COMPARING && i > 0) {
                    cannotStand();
                }
                int what = instructionOfToken();
                next();
                if (level == LOOSEST) {
                    int jump = job.emit(what, 0);
                    binary(level + 1, open);
                    job.emit(Job.TRUTH, 0);
                    job.landHere(jump);
                } else {
                    binary(level + 1, open);
                    job.emit(what, 0);
                }
            }
        }

        private void prefixed(int open) {
            if (!isSign('-') && !isSign('!')) {
                atom(open);
                return;
            }
            goDeeper(open);
            int what = isSign('-') ? Job.NEGATE : Job.NOT;
            next();
            prefixed(open + 1);
            job.emit(what, 0);
        }

        private void atom(int open) {
            if (isSign('(')) {
                goDeeper(open);
                next();
                value(open + 1);
                wantSign(')');
                return;
            }
            if (token == NUMBER_TOKEN) {
                job.emit(Job.PUSH, value);
            } else if (isWord(TIME_WORD)) {
                job.emit(Job.TIME, 0);
            } else {
                job.emit(Job.COLUMN, column(job.ops[op.first]));
            }
            next();
        }

        private void goDeeper(int open) {
            if (open >= MOST_OPEN) {
                refuse(TOO_MUCH);
            }
        }

        /** The document tells | and & together, as it does + and -: they bind alike. */
        private int levelOfToken() {
            if (token != SIGN_TOKEN) {
                return NONE;
            }
            switch ((int) value) {
                case '|':
                case '&':
                    return LOOSEST;
                case '<':
                case '>':
                case '=':
                    return COMPARING;
                case '+':
                case '-':
                    return TIGHTEST - 1;
                case '*':
                case '/':
                case '%':
                    return TIGHTEST;
                default:
                    return NONE;
            }
        }

        private int instructionOfToken() {
            switch ((int) value) {
                case '|':
                    return Job.OR;
                case '&':
                    return Job.AND;
                case '<':
                    return Job.BELOW;
                case '>':
                    return Job.ABOVE;
                case '=':
                    return Job.EQUAL;
                case '+':
                    return Job.PLUS;
                case '-':
                    return Job.MINUS;
                case '*':
                    return Job.TIMES;
                case '/':
                    return Job.DIVIDE;
                default:
                    return Job.REST;
            }
        }

        private boolean isWord(int word) {
            return token == KEYWORD_TOKEN && value == word;
        }

        private boolean isSign(int sign) {
            return token == SIGN_TOKEN && value == sign;
        }

        private void wantWord(int word) {
            if (!isWord(word)) {
                cannotStand();
            }
            next();
        }

        private void wantSign(int sign) {
            if (!isSign(sign)) {
                cannotStand();
            }
            next();
        }

        private void cannotStand() {
            refuse(token == END_TOKEN ? EARLY_END : WRONG_TOKEN);
        }

        private void refuse(int which) {
            fault = which;
            throw new IllegalArgumentException();
        }

        private void next() {
            for (int i = 0; i < MOST_BYTES && at < length && text[at] >= 0 && text[at] <= ' '; i++) {
                at++;
            }
            place = at;
            if (at >= length) {
                token = END_TOKEN;
                return;
            }
            value = text[at];
            if (value >= 'a' && value <= 'z') {
                word();
            } else if (value >= '0' && value <= '9') {
                digits();
                if (at - place > MOST_DIGITS) {
                    refuse(LONG_NUMBER);
                }
            } else {
                if (!isSignByte((int) value)) {
                    refuse(NO_TOKEN);
                }
                token = SIGN_TOKEN;
                at++;
            }
        }

        private void word() {
            value = 0;
            for (int i = 0; i < MOST_BYTES && at < length && text[at] >= 'a' && text[at] <= 'z'; i++) {
                value = value << 8 | text[at];
                at++;
            }
            token = at - place > MOST_LETTERS ? LONG_WORD_TOKEN : NAME_TOKEN;
            for (int i = 0; i < KEYWORDS.length && token == NAME_TOKEN; i++) {
                if (value == KEYWORDS[i]) {
                    token = KEYWORD_TOKEN;
                    value = i;
                }
            }
        }

        private void digits() {
            value = 0;
            for (int i = 0; i < MOST_BYTES && at < length && text[at] >= '0' && text[at] <= '9'; i++) {
                value = value * 10 + text[at] - '0';
                at++;
            }
            token = NUMBER_TOKEN;
        }

        private static boolean isSignByte(int b) {
            switch (b) {
                case '(':
                case ')':
                case ',':
                case ';':
                case ':':
                case '=':
                case '<':
                case '>':
                case '+':
                case '-':
                case '*':
                case '/':
                case '%':
                case '&':
                case '|':
                case '!':
                case '?':
                    return true;
                default:
                    return false;
            }
        }
    }

    /** A task; also what a mark keeps of one, which has its state alone. */
    private static final class Task {
        int operator;
        int part;
        /** Rows that wait, a join's first rows, spans and sessions. */
        final Chain a = new Chain();
        /** A join's and a look's second rows, PARTIAL ones, KEYS of unique. */
        final Chain b = new Chain();
        final Chain box = new Chain();
        int aside;
        int place;
        long watermark;
        int taken;
        int sent;
        boolean hasPart;
        int firstChannel;
        int channels;
        /** Which of its channels, counted from its first one, it looks at first. */
        int turnOf;
        int firstOut;
        int lastOut;

        void lay(int ofOperator, int itsPart) {
            operator = ofOperator;
            part = itsPart;
            aside = 0;
            place = 0;
            watermark = -1;
            taken = 0;
            sent = 0;
            hasPart = false;
            firstChannel = 0;
            channels = 0;
            turnOf = 0;
            firstOut = NONE;
            lastOut = NONE;
        }

        int held() {
            return a.size + b.size;
        }
    }

    /** A channel from a task to another one's input. */
    private static final class Channel {
        final Chain things = new Chain();
        int sender;
        int taker;
        int input;
        long watermark;
        boolean blocked;
        int rows;
        /** The next channel of the same sender. */
        int nextOut;

        void lay(int from, int to, int toInput) {
            sender = from;
            taker = to;
            input = toInput;
            watermark = -1;
            blocked = false;
            rows = 0;
            nextOut = NONE;
        }

        long ofChannel(int what) {
            switch (what) {
                case 0:
                    return sender;
                case 1:
                    return taker;
                case 2:
                    return things.size;
                case 3:
                    return watermark;
                case 4:
                    return blocked ? 1 : 0;
                default:
                    return rows;
            }
        }
    }

    /** What operators do with rows and watermarks; rows that they make come to the chain made. */
    private static final class Works {
        final Pool pool;
        final int mostRecords;
        final Chain made = new Chain();
        final long[] amounts = new long[MOST_AGGREGATES];
        int records;
        Job job;

        Works(Pool itsPool, int most) {
            pool = itsPool;
            mostRecords = most;
        }

        /** A row comes to an operator's input; the cell is the operator's from now on. */
        void accept(Op op, Task task, int input, Cell row) {
            switch (op.kind) {
                case FILTER:
                    filterRow(op, task, row);
                    break;
                case MAP:
                    mapRow(op, task, row);
                    break;
                case UNION:
                    made.add(row);
                    break;
                case SPANS:
                case GAPS:
                    if (measure(op, row)) {
                        foldRow(op, task, row);
                    } else {
                        putAside(task, row);
                    }
                    break;
                case JOIN:
                    joinRow(op, task, input, row);
                    break;
                case MATCH:
                    matchRow(op, task, row);
                    break;
                case TOP:
                    row.key = row.columns[op.byFirst];
                    long span = Math.max(1, op.span);
                    row.from = Math.floorDiv(row.time, span) * span + span - 1;
                    keep(op, task, 0, row);
                    break;
                default:
                    row.key = row.columns[input == 0 ? op.byFirst : op.bySecond];
                    keep(op, task, input, row);
                    break;
            }
        }

        /** The watermark of an operator's task has grown. */
        void advance(Op op, Task task, long w) {
            switch (op.kind) {
                case SPANS:
                    endFolds(op, task, w, 0);
                    break;
                case GAPS:
                    endFolds(op, task, w, op.span - 1);
                    break;
                case JOIN:
                    dropUpTo(task.a, w - op.within);
                    dropUpTo(task.b, w + op.least);
                    break;
                case LOOK:
                    lookUpTo(op, task, w);
                    break;
                case MATCH:
                    matchUpTo(op, task, w);
                    break;
                case UNIQUE:
                    uniqueUpTo(op, task, w);
                    break;
                case TOP:
                    topUpTo(op, task, w);
                    break;
                default:
                    break;
            }
        }

        /** A record comes to a task's state, to where it belongs there. */
        void keep(Op op, Task task, int chain, Cell record) {
            int width = job.ops[chain == 0 || op.second == NONE ? op.first : op.second].width;
            countRecord();
            (chain == 0 ? task.a : task.b).insert(record, orderOf(op.kind, chain), width);
        }

        private void countRecord() {
            if (records >= mostRecords) {
                throw new IllegalStateException();
            }
            records++;
        }

        private static int orderOf(int kind, int chain) {
            switch (kind) {
                case TOP:
                    return Chain.BY_TOP;
                case LOOK:
                    return Chain.BY_ROWS;
                case MATCH:
                case UNIQUE:
                    return chain == 0 ? Chain.BY_ROWS : Chain.AS_THEY_CAME;
                default:
                    return Chain.AS_THEY_CAME;
            }
        }

        private void putAside(Task task, Cell row) {
            task.aside++;
            pool.release(row);
        }

        private void filterRow(Op op, Task task, Cell row) {
            long v = job.value(op.values[0], row);
            if (job.bad) {
                putAside(task, row);
            } else if (v != 0) {
                made.add(row);
            } else {
                pool.release(row);
            }
        }

        private void mapRow(Op op, Task task, Cell row) {
            Cell mapped = pool.fresh();
            mapped.time = row.time;
            mapped.set = row.set;
            for (int i = 0; i < op.valueCount; i++) {
                mapped.columns[i] = job.value(op.values[i], row);
                if (job.bad) {
                    pool.release(mapped);
                    putAside(task, row);
                    return;
                }
            }
            made.add(mapped);
            pool.release(row);
        }

        /** Puts the amounts of a row to its KEY's spans or session. */
        private void foldRow(Op op, Task task, Cell row) {
            row.key = row.columns[op.byFirst];
            if (op.kind == GAPS) {
                Cell session = newFold(op, row, row.time);
                session.from = row.time;
                addNearTo(op, task.a, session, row.time);
                countRecord();
                task.a.add(session);
            } else {
                long step = Math.max(1, op.step);
                long lastStart = Math.floorDiv(row.time, step) * step;
                long firstStart = Math.floorDiv(row.time - op.span, step) * step + step;
                for (long start = firstStart; start <= lastStart; start += step) {
                    long last = start + op.span - 1;
                    if (!addToSpan(op, task.a, row, last)) {
                        countRecord();
                        task.a.add(newFold(op, row, last));
                    }
                }
            }
            pool.release(row);
        }

        /** Works out what a row adds to each AGGREGATE; whether none of the VALUES is BAD. */
        private boolean measure(Op op, Cell row) {
            for (int i = 0; i < op.valueCount && i < MOST_AGGREGATES; i++) {
                amounts[i] = 1;
                if (op.aggregates[i] != Op.COUNT) {
                    amounts[i] = job.value(op.values[i], row);
                    if (job.bad) {
                        return false;
                    }
                }
            }
            return true;
        }

        private Cell newFold(Op op, Cell row, long last) {
            Cell fold = pool.fresh();
            fold.key = row.key;
            fold.set = row.set;
            fold.time = last;
            System.arraycopy(amounts, 0, fold.columns, 0, op.valueCount);
            return fold;
        }

        /** Whether the KEY has that span already. */
        private boolean addToSpan(Op op, Chain spans, Cell row, long last) {
            for (Cell c = spans.first; c != null; c = c.next) {
                if (c.time == last && c.key == row.key) {
                    c.set = pool.together(c.set, row.set);
                    addUp(op, c.columns, amounts);
                    return true;
                }
            }
            return false;
        }

        /**
         * Sessions that are near to the time of a new one are taken into it, one by one as they came: which SETS are
         * made anew can depend on that.
         */
        private void addNearTo(Op op, Chain sessions, Cell session, long time) {
            Cell before = null;
            Cell c = sessions.first;
            while (c != null) {
                Cell next = c.next;
                if (c.key == session.key && c.from - time < op.span && time - c.time < op.span) {
                    sessions.cutBehind(before);
                    records--;
                    session.from = Math.min(session.from, c.from);
                    session.time = Math.max(session.time, c.time);
                    session.set = pool.together(session.set, c.set);
                    addUp(op, session.columns, c.columns);
                    pool.release(c);
                } else {
                    before = c;
                }
                c = next;
            }
        }

        private static void addUp(Op op, long[] to, long[] more) {
            for (int i = 0; i < op.valueCount && i < MOST_AGGREGATES; i++) {
                if (op.aggregates[i] == Op.LEAST) {
                    to[i] = Math.min(to[i], more[i]);
                } else if (op.aggregates[i] == Op.MOST) {
                    to[i] = Math.max(to[i], more[i]);
                } else {
                    to[i] += more[i];
                }
            }
        }

        /** Spans and sessions that are over become rows, in order, which is not the one in which they are kept. */
        private void endFolds(Op op, Task task, long w, int more) {
            Cell before = null;
            Cell c = task.a.first;
            while (c != null) {
                Cell next = c.next;
                if (c.time + more <= w) {
                    task.a.cutBehind(before);
                    records--;
                    made.insert(c, Chain.BY_FOLDS, 0);
                } else {
                    before = c;
                }
                c = next;
            }
            for (Cell row = made.first; row != null; row = row.next) {
                becomeRow(op, row, more);
            }
        }

        private static void becomeRow(Op op, Cell fold, int more) {
            fold.time += more;
            for (int i = Math.min(op.valueCount, MOST_COLUMNS - 1); i > 0; i--) {
                fold.columns[i] = fold.columns[i - 1];
            }
            fold.columns[0] = fold.key;
        }

        private void joinRow(Op op, Task task, int input, Cell row) {
            row.key = row.columns[input == 0 ? op.byFirst : op.bySecond];
            for (Cell c = input == 0 ? task.b.first : task.a.first; c != null; c = c.next) {
                long behind = input == 0 ? c.time - row.time : row.time - c.time;
                if (c.key == row.key && behind >= op.least && behind <= op.within) {
                    addPair(op, input == 0 ? row : c, input == 0 ? c : row, Math.max(c.time, row.time));
                }
            }
            keep(op, task, input, row);
        }

        private void addPair(Op op, Cell first, Cell second, long time) {
            int width = job.ops[op.first].width;
            int set = pool.together(first.set, second.set);
            Cell pair = pool.fresh();
            pair.time = time;
            pair.set = set;
            System.arraycopy(first.columns, 0, pair.columns, 0, width);
            System.arraycopy(second.columns, 0, pair.columns, width, op.width - width);
            made.add(pair);
        }

        private void dropUpTo(Chain chain, long time) {
            Cell before = null;
            Cell c = chain.first;
            while (c != null) {
                Cell next = c.next;
                if (c.time <= time) {
                    drop(chain, before);
                } else {
                    before = c;
                }
                c = next;
            }
        }

        private void drop(Chain chain, Cell before) {
            Cell cut = chain.cutBehind(before);
            if (cut != null) {
                records--;
                pool.release(cut);
            }
        }

        private void lookUpTo(Op op, Task task, long w) {
            int width = job.ops[op.second].width;
            for (Cell row = task.a.first; row != null && row.time <= w; row = task.a.first) {
                task.a.takeFirst();
                records--;
                Cell best = null;
                for (Cell c = task.b.first; c != null && c.time <= row.time; c = c.next) {
                    if (c.key == row.key && (best == null || Chain.compare(c, best, Chain.BY_ROWS, width) > 0)) {
                        best = c;
                    }
                }
                if (best != null) {
                    addPair(op, row, best, row.time);
                }
                pool.release(row);
            }
            dropOutdone(task.b, w, width);
        }

        /** Of each KEY only the greatest row that is not above W can still be looked up. */
        private void dropOutdone(Chain chain, long w, int width) {
            Cell before = null;
            Cell c = chain.first;
            while (c != null && c.time <= w) {
                Cell next = c.next;
                if (isOutdone(chain, c, w, width)) {
                    drop(chain, before);
                } else {
                    before = c;
                }
                c = next;
            }
        }

        private static boolean isOutdone(Chain chain, Cell row, long w, int width) {
            boolean behind = false;
            for (Cell c = chain.first; c != null && c.time <= w; c = c.next) {
                if (c == row) {
                    behind = true;
                } else if (c.key == row.key) {
                    int order = Chain.compare(c, row, Chain.BY_ROWS, width);
                    if (order > 0 || order == 0 && !behind) {
                        return true;
                    }
                }
            }
            return false;
        }

        /** The VALUES are worked out as the row comes, for a BAD one sends it aside then. */
        private void matchRow(Op op, Task task, Cell row) {
            int holds = 0;
            for (int i = 0; i < op.valueCount; i++) {
                long v = job.value(op.values[i], row);
                if (job.bad) {
                    putAside(task, row);
                    return;
                }
                holds |= v != 0 ? 1 << i : 0;
            }
            row.sort = holds;
            row.key = row.columns[op.byFirst];
            keep(op, task, 0, row);
        }

        private void matchUpTo(Op op, Task task, long w) {
            for (Cell row = task.a.first; row != null && row.time <= w; row = task.a.first) {
                task.a.takeFirst();
                records--;
                goOnBy(op, task, row);
                if ((row.sort & 1) != 0) {
                    Cell partial = pool.fresh();
                    partial.key = row.key;
                    partial.from = row.time;
                    partial.sort = 1;
                    partial.set = row.set;
                    keep(op, task, 1, partial);
                }
                pool.release(row);
            }
            Cell before = null;
            Cell c = task.b.first;
            while (c != null) {
                Cell next = c.next;
                if (w + 1 - c.from > op.within) {
                    drop(task.b, before);
                } else {
                    before = c;
                }
                c = next;
            }
        }

        private void goOnBy(Op op, Task task, Cell row) {
            Cell before = null;
            Cell c = task.b.first;
            while (c != null) {
                Cell next = c.next;
                boolean same = c.key == row.key;
                boolean over = same && row.time - c.from > op.within;
                if (same && !over && (row.sort >> c.sort & 1) != 0) {
                    c.sort++;
                    c.set = pool.together(c.set, row.set);
                }
                if (over) {
                    drop(task.b, before);
                } else if (c.sort == op.valueCount) {
                    task.b.cutBehind(before);
                    records--;
                    c.time = row.time;
                    c.columns[0] = c.key;
                    c.columns[1] = c.from;
                    c.columns[2] = row.time;
                    made.add(c);
                } else {
                    before = c;
                }
                c = next;
            }
        }

        private void uniqueUpTo(Op op, Task task, long w) {
            for (Cell row = task.a.first; row != null && row.time <= w; row = task.a.first) {
                task.a.takeFirst();
                records--;
                Cell known = task.b.first;
                while (known != null && known.key != row.key) {
                    known = known.next;
                }
                if (known != null && row.time - known.time < op.within) {
                    pool.release(row);
                    continue;
                }
                if (known == null) {
                    known = pool.fresh();
                    known.key = row.key;
                    keep(op, task, 1, known);
                }
                known.time = row.time;
                made.add(row);
            }
            dropUpTo(task.b, w + 1 - op.within);
        }

        private void topUpTo(Op op, Task task, long w) {
            int width = job.ops[op.first].width;
            long last = -1;
            int rank = 0;
            for (Cell row = task.a.first; row != null && row.from <= w; row = task.a.first) {
                task.a.takeFirst();
                records--;
                rank = row.from == last ? rank + 1 : 1;
                last = row.from;
                if (rank > op.number) {
                    pool.release(row);
                } else {
                    row.time = last;
                    row.columns[width] = rank;
                    made.add(row);
                }
            }
        }
    }

    /** Marks, what is kept of them, and the power, which fails at writing. */
    private static final class Disk {
        /** By operators, MOST_PARALLEL for each. */
        private Task[] parts = new Task[MOST_TASKS];
        private Task[] sealed = new Task[MOST_TASKS];
        int asked;
        int open;
        int latest;
        int latestParallel;
        int written;
        int held;
        int powerLeft = NONE;
        boolean down;

        int ask() {
            asked++;
            open = asked;
            written = 0;
            held = 0;
            return open;
        }

        /** Whether something can be written; else the power fails. */
        boolean write() {
            if (powerLeft == 0) {
                down = true;
                return false;
            }
            if (powerLeft > 0) {
                powerLeft--;
            }
            return true;
        }

        void powerReturns() {
            down = false;
            powerLeft = NONE;
        }

        /** What is kept of a task, without its records, which are still to be copied there. */
        Task keepPart(Task task) {
            int at = task.operator * MOST_PARALLEL + task.part;
            if (parts[at] == null) {
                parts[at] = new Task();
            }
            Task part = parts[at];
            part.lay(task.operator, task.part);
            part.aside = task.aside;
            part.place = task.place;
            part.watermark = task.watermark;
            written++;
            held += task.held();
            return part;
        }

        void seal(Pool pool, int parallel) {
            Task[] before = sealed;
            sealed = parts;
            parts = before;
            latest = open;
            latestParallel = parallel;
            open = 0;
            releaseParts(pool, parts);
        }

        /** There is no open mark any more. */
        void giveUp(Pool pool) {
            open = 0;
            releaseParts(pool, parts);
        }

        void forgetMarks(Pool pool) {
            giveUp(pool);
            releaseParts(pool, sealed);
            asked = 0;
            latest = 0;
        }

        private static void releaseParts(Pool pool, Task[] from) {
            for (int i = 0; i < from.length; i++) {
                if (from[i] != null) {
                    pool.releaseAll(from[i].a);
                    pool.releaseAll(from[i].b);
                }
            }
        }

        /** A part of the latest mark, null if it has none there. */
        Task partOfLatest(int operator, int part) {
            return latest == 0 ? null : sealed[operator * MOST_PARALLEL + part];
        }

        int recordsOf(int operator, long key) {
            int found = 0;
            for (int p = 0; p < MOST_PARALLEL && p < latestParallel; p++) {
                Task part = partOfLatest(operator, p);
                if (part != null) {
                    found += count(part.a, key) + count(part.b, key);
                }
            }
            return found;
        }

        private static int count(Chain chain, long key) {
            int found = 0;
            for (Cell c = chain.first; c != null; c = c.next) {
                found += c.key == key ? 1 : 0;
            }
            return found;
        }
    }

    /** A run of a job: tasks, channels, turns, and rows that came out. There is none while it has no tasks. */
    private static final class Run {
        final Pool pool;
        final Works works;
        final Disk disk = new Disk();
        final Task[] tasks = new Task[MOST_TASKS];
        final Channel[] channels = new Channel[MOST_CHANNELS];
        final int[] firstTask = new int[MOST_STATEMENTS + 1];
        final Chain[] pendingRows = newChains(MOST_OUTPUTS);
        final Chain[] preparedRows = newChains(MOST_OUTPUTS);
        final Chain[] visibleRows = newChains(MOST_OUTPUTS);
        Job job;
        int taskCount;
        int channelCount;
        int parallel;
        int room;
        int boxed;
        long x;
        boolean broken;
        int turns;
        int idle;
        int again;

        Run(Pool itsPool) {
            pool = itsPool;
            works = new Works(itsPool, MOST_RECORDS);
        }

        /** There is no run any more, and nothing that came of one. */
        void end() {
            empty();
            for (int i = 0; i < MOST_OUTPUTS; i++) {
                pool.releaseAll(visibleRows[i]);
            }
            disk.forgetMarks(pool);
            pool.sets = 0;
            taskCount = 0;
            channelCount = 0;
            broken = false;
            turns = 0;
            idle = 0;
            again = 0;
        }

        void begin(Job ofJob, int withParallel, int withRoom, long seed) {
            end();
            job = ofJob;
            works.job = ofJob;
            room = withRoom;
            x = seed;
            layOut(withParallel);
        }

        void beginAgain(int withParallel) {
            empty();
            disk.giveUp(pool);
            broken = false;
            again++;
            layOut(withParallel);
            for (int i = 0; i < job.count; i++) {
                restore(i);
            }
            for (int i = 0; i < taskCount; i++) {
                if (tasks[i].watermark != -1) {
                    sendToAll(tasks[i], Cell.WATERMARK, tasks[i].watermark);
                }
            }
        }

        private void empty() {
            for (int i = 0; i < taskCount; i++) {
                pool.releaseAll(tasks[i].a);
                pool.releaseAll(tasks[i].b);
                pool.releaseAll(tasks[i].box);
            }
            for (int i = 0; i < channelCount; i++) {
                pool.releaseAll(channels[i].things);
            }
            for (int i = 0; i < MOST_OUTPUTS; i++) {
                pool.releaseAll(pendingRows[i]);
                pool.releaseAll(preparedRows[i]);
            }
            boxed = 0;
            works.records = 0;
        }

        private void layOut(int withParallel) {
            parallel = withParallel;
            taskCount = 0;
            channelCount = 0;
            for (int i = 0; i < job.count; i++) {
                firstTask[i] = taskCount;
                int parts = hasOneTask(job.ops[i].kind) ? 1 : parallel;
                for (int p = 0; p < parts && taskCount < MOST_TASKS; p++) {
                    if (tasks[taskCount] == null) {
                        tasks[taskCount] = new Task();
                    }
                    tasks[taskCount].lay(i, p);
                    taskCount++;
                }
            }
            firstTask[job.count] = taskCount;
            for (int t = 0; t < taskCount; t++) {
                tasks[t].firstChannel = channelCount;
                connect(t, 0, job.ops[tasks[t].operator].first);
                connect(t, 1, job.ops[tasks[t].operator].second);
                tasks[t].channels = channelCount - tasks[t].firstChannel;
            }
        }

        private void connect(int taker, int input, int from) {
            if (from == NONE) {
                return;
            }
            int kind = job.ops[tasks[taker].operator].kind;
            int senders = firstTask[from + 1] - firstTask[from];
            if (isKeyed(kind) || hasOneTask(kind) || senders == 1) {
                for (int s = firstTask[from]; s < firstTask[from + 1]; s++) {
                    addChannel(s, taker, input);
                }
            } else {
                addChannel(firstTask[from] + tasks[taker].part, taker, input);
            }
        }

        private void addChannel(int sender, int taker, int input) {
            if (channelCount >= MOST_CHANNELS) {
                return;
            }
            if (channels[channelCount] == null) {
                channels[channelCount] = new Channel();
            }
            channels[channelCount].lay(sender, taker, input);
            Task from = tasks[sender];
            if (from.lastOut == NONE) {
                from.firstOut = channelCount;
            } else {
                channels[from.lastOut].nextOut = channelCount;
            }
            from.lastOut = channelCount;
            channelCount++;
        }

        private void restore(int operator) {
            int parts = hasOneTask(job.ops[operator].kind) ? 1 : disk.latestParallel;
            for (int p = 0; p < parts && p < MOST_PARALLEL; p++) {
                Task part = disk.partOfLatest(operator, p);
                if (part != null) {
                    Task own = tasks[firstTask[operator] + (parallel == disk.latestParallel ? p : 0)];
                    own.aside += part.aside;
                    if (job.ops[operator].kind == SOURCE) {
                        own.place = part.place;
                        own.watermark = part.watermark;
                    }
                    restoreRecords(operator, part.a, 0);
                    restoreRecords(operator, part.b, 1);
                }
            }
        }

        private void restoreRecords(int operator, Chain records, int chain) {
            Op op = job.ops[operator];
            for (Cell c = records.first; c != null; c = c.next) {
                int part = isKeyed(op.kind) ? partOf(c.key, parallel) : 0;
                works.keep(op, tasks[firstTask[operator] + part], chain, pool.copyOf(c));
            }
        }

        /** A turn: how many things were taken or rows read, 0 or 1. */
        int playTurn() {
            x = x * 6364136223846793005L + 1442695040888963407L;
            if (taskCount == 0) {
                return 0;
            }
            Task task = tasks[(int) ((x >>> 33) % taskCount)];
            Op op = job.ops[task.operator];
            int takenBefore = task.taken;
            int setsBefore = pool.sets;
            int powerBefore = disk.powerLeft;
            turns++;
            try {
                if (unload(task)) {
                    boolean did = op.kind == SOURCE ? actAsSource(task, op) : takeThing(task, op);
                    idle += did ? 0 : 1;
                    unload(task);
                }
            } catch (IllegalStateException e) {
                broken = true;
                pool.sets = setsBefore;
                disk.powerLeft = powerBefore;
                pool.releaseAll(works.made);
            }
            return task.taken - takenBefore;
        }

        /** Whether there was one. */
        private boolean takeThing(Task task, Op op) {
            Channel channel = nextChannel(task);
            Cell thing = channel == null ? null : channel.things.takeFirst();
            if (thing == null) {
                return false;
            }
            task.taken++;
            if (thing.sort == Cell.BARRIER) {
                pool.release(thing);
                channel.blocked = true;
                if (isBlocked(task) && takePart(task, op)) {
                    unblock(task);
                    sendToAll(task, Cell.BARRIER, 0);
                }
            } else if (thing.sort == Cell.WATERMARK) {
                channel.watermark = thing.time;
                pool.release(thing);
                if (hasGrown(task)) {
                    works.advance(op, task, task.watermark);
                    sendMade(task);
                    sendToAll(task, Cell.WATERMARK, task.watermark);
                }
            } else if (op.kind == OUTPUT) {
                putOut(op, thing);
            } else {
                works.accept(op, task, channel.input, thing);
                sendMade(task);
            }
            return true;
        }

        /** Things of a task's box go to their channels; whether none is left. */
        private boolean unload(Task task) {
            for (Cell c = task.box.first; c != null; c = task.box.first) {
                Channel channel = channels[c.goal];
                if (channel.things.size >= room) {
                    return false;
                }
                task.box.takeFirst();
                boxed--;
                channel.things.add(c);
                channel.rows += c.sort == Cell.ROW ? 1 : 0;
            }
            return true;
        }

        private Channel nextChannel(Task task) {
            for (int i = 0; i < task.channels; i++) {
                int at = (task.turnOf + i) % task.channels;
                Channel channel = channels[task.firstChannel + at];
                if (channel.things.size > 0 && !channel.blocked) {
                    task.turnOf = (at + 1) % task.channels;
                    return channel;
                }
            }
            return null;
        }

        /** Whether there was something to do. */
        private boolean actAsSource(Task task, Op op) {
            if (disk.open != 0 && !task.hasPart) {
                if (takePart(task, op)) {
                    sendToAll(task, Cell.BARRIER, 0);
                }
                return true;
            }
            if (task.place < job.givenCount[op.number]) {
                readRow(task, op);
                return true;
            }
            if (job.closed[op.number] && task.watermark != ENDLESS) {
                task.watermark = ENDLESS;
                sendToAll(task, Cell.WATERMARK, ENDLESS);
                return true;
            }
            return false;
        }

        private void readRow(Task task, Op op) {
            int place = task.place;
            task.place++;
            task.taken++;
            if (job.given[op.number][place * Job.GIVEN_WIDTH] <= task.watermark) {
                task.aside++;
                return;
            }
            int set = pool.setOfRow(op.number, place);
            Cell row = pool.fresh();
            row.set = set;
            job.readInto(row, op.number, place);
            long watermark = row.time - op.lag - 1;
            sendRow(task, row);
            if (watermark > task.watermark) {
                task.watermark = watermark;
                sendToAll(task, Cell.WATERMARK, watermark);
            }
        }

        private void putOut(Op op, Cell row) {
            int out = 0;
            for (int i = 0; i < MOST_OUTPUTS; i++) {
                out += pendingRows[i].size + preparedRows[i].size + visibleRows[i].size;
            }
            if (out >= MOST_OUT) {
                throw new IllegalStateException();
            }
            pendingRows[op.number].add(row);
        }

        private boolean hasGrown(Task task) {
            long least = ENDLESS;
            for (int i = 0; i < task.channels; i++) {
                least = Math.min(least, channels[task.firstChannel + i].watermark);
            }
            boolean grown = least > task.watermark;
            task.watermark = Math.max(least, task.watermark);
            return grown;
        }

        private boolean isBlocked(Task task) {
            for (int i = 0; i < task.channels; i++) {
                if (!channels[task.firstChannel + i].blocked) {
                    return false;
                }
            }
            return true;
        }

        private void unblock(Task task) {
            for (int i = 0; i < task.channels; i++) {
                channels[task.firstChannel + i].blocked = false;
            }
        }

        /** A task's state becomes its part of the open mark; false if the power fails at that. */
        private boolean takePart(Task task, Op op) {
            if (disk.held + task.held() > MOST_RECORDS) {
                throw new IllegalStateException();
            }
            if (!disk.write()) {
                return false;
            }
            Task part = disk.keepPart(task);
            pool.copyAll(task.a, part.a);
            pool.copyAll(task.b, part.b);
            task.hasPart = true;
            if (op.kind == OUTPUT) {
                pendingRows[op.number].moveAllTo(preparedRows[op.number]);
            }
            return disk.written < taskCount || seal();
        }

        private boolean seal() {
            if (!disk.write()) {
                return false;
            }
            disk.seal(pool, parallel);
            for (int i = 0; i < taskCount; i++) {
                tasks[i].hasPart = false;
            }
            Chain sorted = works.made;
            for (int i = 0; i < job.outputs; i++) {
                int width = job.outputOp(i).width;
                for (Cell c = preparedRows[i].takeFirst(); c != null; c = preparedRows[i].takeFirst()) {
                    sorted.insert(c, Chain.BY_ROWS, width);
                }
                sorted.moveAllTo(visibleRows[i]);
            }
            return true;
        }

        private void sendMade(Task task) {
            for (Cell row = works.made.takeFirst(); row != null; row = works.made.takeFirst()) {
                sendRow(task, row);
            }
        }

        private void sendRow(Task task, Cell row) {
            for (int c = task.firstOut; c != NONE; c = channels[c].nextOut) {
                if (isFor(channels[c], task, row)) {
                    Cell thing = pool.copyOf(row);
                    thing.sort = Cell.ROW;
                    putInBox(task, c, thing);
                }
            }
            task.sent++;
            pool.release(row);
        }

        private boolean isFor(Channel channel, Task sender, Cell row) {
            Task taker = tasks[channel.taker];
            Op op = job.ops[taker.operator];
            if (isKeyed(op.kind)) {
                return partOf(row.columns[channel.input == 0 ? op.byFirst : op.bySecond], parallel) == taker.part;
            }
            boolean dealt = hasOneTask(job.ops[sender.operator].kind) && !hasOneTask(op.kind);
            return !dealt || sender.sent % parallel == taker.part;
        }

        private void sendToAll(Task task, int sort, long time) {
            for (int c = task.firstOut; c != NONE; c = channels[c].nextOut) {
                Cell thing = pool.fresh();
                thing.sort = sort;
                thing.time = time;
                putInBox(task, c, thing);
            }
        }

        private void putInBox(Task task, int channel, Cell thing) {
            if (boxed >= MOST_BOXED) {
                throw new IllegalStateException();
            }
            boxed++;
            thing.goal = channel;
            task.box.add(thing);
        }

        long ofTask(Task task, int what) {
            Op op = job.ops[task.operator];
            switch (what) {
                case 0:
                    return task.operator;
                case 1:
                    return task.part;
                case 2:
                    return task.watermark;
                case 3:
                    return task.box.size;
                case 4:
                    return op.kind == OUTPUT ? pendingRows[op.number].size : task.held();
                case 5:
                    return task.taken;
                case 6:
                    return task.aside;
                case 7:
                    return op.kind == SOURCE ? task.place : NONE;
                default:
                    return task.hasPart ? 1 : 0;
            }
        }

        int toldOfRun(int what) {
            int rows = 0;
            switch (what) {
                case 1:
                    return taskCount;
                case 2:
                    return channelCount;
                case 3:
                    return turns;
                case 4:
                    return idle;
                case 7:
                    return again;
                case 8:
                    return broken ? 1 : 0;
                case 10:
                case 11:
                    for (int i = 0; i < MOST_OUTPUTS; i++) {
                        rows += (what == 10 ? preparedRows : pendingRows)[i].size;
                    }
                    return rows;
                default:
                    return NONE;
            }
        }
    }

    /** ONE PASS over all rows that were given: each operator has all its rows before it is told that they end. */
    private static final class Pass {
        final Pool pool;
        final Works works;
        final Task state = new Task();
        final Chain[] rows = newChains(MOST_STATEMENTS);
        final Chain sorted = new Chain();
        Job job;
        int total;

        Pass(Pool itsPool) {
            pool = itsPool;
            /* Every record of a fold becomes a row, others are rows: more of them than this are too many rows. */
            works = new Works(itsPool, MOST_PASS_ROWS + 1);
        }

        boolean isRight(Job ofJob, Chain[] visibleRows) {
            job = ofJob;
            works.job = ofJob;
            total = 0;
            try {
                for (int i = 0; i < job.count; i++) {
                    Op op = job.ops[i];
                    acceptAll(op, 0, op.first);
                    acceptAll(op, 1, op.second);
                    works.advance(op, state, ENDLESS);
                    keepMade(i, op);
                }
            } catch (IllegalStateException e) {
                return false;
            }
            for (int i = 0; i < job.outputs; i++) {
                Op op = job.outputOp(i);
                if (!hasSameRows(rows[op.first], visibleRows[i], op.width)) {
                    return false;
                }
            }
            return true;
        }

        /** Cells that this pass used are free again. */
        void forget() {
            for (int i = 0; i < MOST_STATEMENTS; i++) {
                pool.releaseAll(rows[i]);
            }
            pool.releaseAll(state.a);
            pool.releaseAll(state.b);
            pool.releaseAll(works.made);
            pool.releaseAll(sorted);
            works.records = 0;
        }

        private void acceptAll(Op op, int input, int from) {
            if (from == NONE || op.kind == OUTPUT) {
                return;
            }
            for (Cell c = rows[from].first; c != null; c = c.next) {
                works.accept(op, state, input, pool.copyOf(c));
                limit();
            }
        }

        private void keepMade(int operator, Op op) {
            if (op.kind == SOURCE) {
                readSource(op);
            }
            limit();
            total += works.made.size;
            works.made.moveAllTo(rows[operator]);
            pool.releaseAll(state.a);
            pool.releaseAll(state.b);
            works.records = 0;
        }

        private void readSource(Op op) {
            long watermark = -1;
            for (int place = 0; place < job.givenCount[op.number]; place++) {
                Cell row = pool.fresh();
                job.readInto(row, op.number, place);
                if (row.time > watermark) {
                    watermark = Math.max(watermark, row.time - op.lag - 1);
                    works.made.add(row);
                } else {
                    pool.release(row);
                }
            }
        }

        private void limit() {
            if (total + works.made.size > MOST_PASS_ROWS) {
                throw new IllegalStateException();
            }
        }

        /** Whether two chains have the same rows, each as often. */
        private boolean hasSameRows(Chain made, Chain seen, int width) {
            if (made.size != seen.size) {
                return false;
            }
            pool.releaseAll(sorted);
            for (Cell c = made.first; c != null; c = c.next) {
                sorted.insert(pool.copyOf(c), Chain.BY_ROWS, width);
            }
            Chain other = works.made;
            for (Cell c = seen.first; c != null; c = c.next) {
                other.insert(pool.copyOf(c), Chain.BY_ROWS, width);
            }
            boolean same = true;
            Cell b = other.first;
            for (Cell a = sorted.first; a != null && b != null; a = a.next) {
                same = same && Chain.compare(a, b, Chain.BY_ROWS, width) == 0;
                b = b.next;
            }
            pool.releaseAll(other);
            return same;
        }
    }
}
