/**
 * Programs with numbers and arrays whose needless checks are found out ahead of any run
 * and left out when they run. The document tells the rules; the words here are its words.
 */
public final class CheckSaver {
    public static final int NONE = -1;
    public static final int FREE = 1000000000;

    private static final int NUMBERS = 10;
    private static final int ARRAYS = 4;
    private static final int MOST_STATEMENTS = 64;
    private static final int DEEPEST = 8;
    private static final int MOST_INPUTS = 64;
    private static final int MOST_STEPS = 2000;
    private static final int MOST_OUTPUTS_KEPT = 16;
    private static final int MOST_MADE = 40;
    private static final int LONGEST = 40;
    private static final int GREATEST_CONSTANT = 100;
    private static final int GREATEST_NUMBER = 1000000;
    private static final int GREATEST_BOUND = 200;

    private static final int SET = 0;
    private static final int ADD = 1;
    private static final int READ = 2;
    private static final int LENGTH = 3;
    private static final int LOAD = 4;
    private static final int STORE = 5;
    private static final int NEW = 6;
    private static final int NULL = 7;
    private static final int LET = 8;
    private static final int IF = 9;
    private static final int ELSE = 10;
    private static final int END = 11;
    private static final int WHILE = 12;
    private static final int WRITE = 13;

    /** The y of an IF or WHILE that compares with 0 in place of a number. */
    private static final int ZERO = 10;

    private static final int CHECK_NULL = 1;
    private static final int CHECK_LOW = 2;
    private static final int CHECK_HIGH = 4;

    private static final int GOES = 0;
    private static final int AT_END = 1;
    private static final int STOPPED_NULL = 2;
    private static final int STOPPED_LOW = 3;
    private static final int STOPPED_HIGH = 4;
    private static final int STOPPED_SUM = 5;
    private static final int STOPPED_NEW = 6;

    // Each part makes the parts that it uses, so that no constructor hands out one of its own.
    private final Machine machine = new Machine();
    private final Inputs inputs = machine.inputs;
    private final Finder finder = machine.finder;
    private final Program program = finder.program;

    public CheckSaver() {
    }

    public int put(int sort, int x, int y, int z) throws IllegalArgumentException {
        if (!Program.fits(sort, x, y, z) || !program.hasOwner(sort)) {
            throw new IllegalArgumentException();
        }
        machine.leave();
        finder.forgetAll();
        return program.append(sort, x, y, z);
    }

    public int clear() {
        int had = program.count;
        program.empty();
        inputs.empty();
        machine.leave();
        finder.forgetAll();
        return had;
    }

    public int give(int v) throws IllegalArgumentException {
        if (v < -GREATEST_NUMBER || v > GREATEST_NUMBER) {
            throw new IllegalArgumentException();
        }
        return inputs.append(v);
    }

    public int start() throws IllegalStateException {
        if (program.depth > 0) {
            throw new IllegalStateException();
        }
        finder.work();
        machine.begin();
        return finder.countNeedless();
    }

    public int needless(int k) throws IllegalStateException, IndexOutOfBoundsException {
        requireStatement(k);
        return finder.checksNeedless[k];
    }

    public int least(int k, int n) throws IllegalStateException, IndexOutOfBoundsException {
        requireStatement(k);
        requireIndex(n, NUMBERS);
        int low = finder.before[k].low[n];
        return low == Facts.NO_LEAST ? FREE : low;
    }

    public int highest(int k, int n, int r) throws IllegalStateException, IndexOutOfBoundsException {
        requireStatement(k);
        requireIndex(n, NUMBERS);
        requireIndex(r, ARRAYS);
        return finder.before[k].high[n * ARRAYS + r];
    }

    public int run(int n) throws IllegalStateException, IllegalArgumentException {
        if (!machine.begun || machine.status != GOES) {
            throw new IllegalStateException();
        }
        if (n < 1 || n > MOST_STEPS) {
            throw new IllegalArgumentException();
        }
        return machine.advance(n);
    }

    public int output(int k) {
        return machine.begun ? machine.outputBack(k) : FREE;
    }

    public int state(int what) {
        return machine.begun ? machine.tell(what) : NONE;
    }

    public int number(int n) {
        return machine.begun && isNumber(n) ? machine.numbers[n] : FREE;
    }

    public int length(int r) {
        return machine.begun && isArray(r) ? machine.lengthOf(r) : NONE;
    }

    public int place(int r, int i) {
        return machine.begun && isArray(r) ? machine.placeOf(r, i) : FREE;
    }

    private void requireStatement(int k) {
        if (!machine.begun) {
            throw new IllegalStateException();
        }
        requireIndex(k, program.count);
    }

    private static void requireIndex(int index, int bound) {
        if (index < 0 || index >= bound) {
            throw new IndexOutOfBoundsException();
        }
    }

    private static boolean isNumber(int n) {
        return n >= 0 && n < NUMBERS;
    }

    private static boolean isArray(int r) {
        return r >= 0 && r < ARRAYS;
    }

    /** The statements told so far, and which of them belong together. */
    private static final class Program {
        final int[] sorts = new int[MOST_STATEMENTS];
        final int[] xs = new int[MOST_STATEMENTS];
        final int[] ys = new int[MOST_STATEMENTS];
        final int[] zs = new int[MOST_STATEMENTS];
        /** Of an ELSE or END the if or while it belongs to. */
        final int[] headOf = new int[MOST_STATEMENTS];
        /** Of an if its ELSE, NONE without one. */
        final int[] elseOf = new int[MOST_STATEMENTS];
        /** Of an if or while its END. */
        final int[] endOf = new int[MOST_STATEMENTS];
        /** Of a while the numbers and the arrays, as bits, that statements within change. */
        final int[] numbersChanged = new int[MOST_STATEMENTS];
        final int[] arraysChanged = new int[MOST_STATEMENTS];
        final int[] open = new int[DEEPEST];
        int count;
        int depth;

        static boolean fits(int sort, int x, int y, int z) {
            switch (sort) {
                case SET:
                    return isNumber(x) && isConstant(y) && z == 0;
                case ADD:
                    return isNumber(x) && isNumber(y) && isConstant(z);
                case READ:
                case WRITE:
                    return isNumber(x) && y == 0 && z == 0;
                case LENGTH:
                    return isNumber(x) && isArray(y) && z == 0;
                case LOAD:
                    return isNumber(x) && isArray(y) && isNumber(z);
                case STORE:
                    return isArray(x) && isNumber(y) && isNumber(z);
                case NEW:
                    return isArray(x) && isNumber(y) && z == 0;
                case NULL:
                    return isArray(x) && y == 0 && z == 0;
                case LET:
                    return isArray(x) && isArray(y) && z == 0;
                case IF:
                case WHILE:
                    return isNumber(x) && (isNumber(y) || y == ZERO) && isConstant(z);
                case ELSE:
                case END:
                    return x == 0 && y == 0 && z == 0;
                default:
                    return false;
            }
        }

        private static boolean isConstant(int c) {
            return c >= -GREATEST_CONSTANT && c <= GREATEST_CONSTANT;
        }

        boolean hasOwner(int sort) {
            if (sort != ELSE && sort != END) {
                return true;
            }
            if (depth == 0) {
                return false;
            }
            int head = open[depth - 1];
            return sort == END || (sorts[head] == IF && elseOf[head] == NONE);
        }

        int append(int sort, int x, int y, int z) {
            boolean opens = sort == IF || sort == WHILE;
            if (count == MOST_STATEMENTS || (opens && depth == DEEPEST)) {
                return NONE;
            }
            int k = count;
            sorts[k] = sort;
            xs[k] = x;
            ys[k] = y;
            zs[k] = z;
            elseOf[k] = NONE;
            if (opens) {
                open[depth] = k;
                depth++;
            } else if (sort == ELSE) {
                headOf[k] = open[depth - 1];
                elseOf[headOf[k]] = k;
            } else if (sort == END) {
                close(k);
            }
            count++;
            return count;
        }

        private void close(int k) {
            depth--;
            int head = open[depth];
            headOf[k] = head;
            endOf[head] = k;
            int numbers = 0;
            int arrays = 0;
            for (int i = head + 1; i < k; i++) {
                if (sorts[i] >= SET && sorts[i] <= LOAD) {
                    numbers |= 1 << xs[i];
                } else if (sorts[i] >= NEW && sorts[i] <= LET) {
                    arrays |= 1 << xs[i];
                }
            }
            numbersChanged[head] = numbers;
            arraysChanged[head] = arrays;
        }

        void empty() {
            count = 0;
            depth = 0;
        }
    }

    /** The inputs that wait, in a ring. */
    private static final class Inputs {
        private final int[] waiting = new int[MOST_INPUTS];
        private int first;
        private int count;

        int append(int v) {
            if (count == MOST_INPUTS) {
                return NONE;
            }
            waiting[(first + count) % MOST_INPUTS] = v;
            count++;
            return count;
        }

        int takeNext() {
            if (count == 0) {
                return 0;
            }
            int v = waiting[first];
            first = (first + 1) % MOST_INPUTS;
            count--;
            return v;
        }

        void empty() {
            first = 0;
            count = 0;
        }
    }

    /**
     * What is known at one point of the program. What is known of an array value is kept with
     * each variable that has it: a value that no variable has can never be had again.
     */
    private static final class Facts {
        /** Far below every bound, so that the greater one of two passes it over. */
        static final int NO_LEAST = -FREE;
        static final int NULL_VALUE = 0;
        static final int FIRST_MADE_VALUE = 1;
        static final int FIRST_JOINED_VALUE = FIRST_MADE_VALUE + MOST_STATEMENTS;

        /** FREE for a number that is not known. */
        final int[] known = new int[NUMBERS];
        final int[] low = new int[NUMBERS];
        /** Of number n against the value of array r at n * ARRAYS + r; FREE for none. */
        final int[] high = new int[NUMBERS * ARRAYS];
        final int[] value = new int[ARRAYS];
        /** The known length of the value, FREE without one. */
        final int[] size = new int[ARRAYS];
        final boolean[] there = new boolean[ARRAYS];

        void setFirst() {
            for (int n = 0; n < NUMBERS; n++) {
                known[n] = 0;
                low[n] = 0;
            }
            for (int r = 0; r < ARRAYS; r++) {
                setNull(r);
            }
        }

        void copy(Facts from) {
            System.arraycopy(from.known, 0, known, 0, NUMBERS);
            System.arraycopy(from.low, 0, low, 0, NUMBERS);
            System.arraycopy(from.high, 0, high, 0, NUMBERS * ARRAYS);
            System.arraycopy(from.value, 0, value, 0, ARRAYS);
            System.arraycopy(from.size, 0, size, 0, ARRAYS);
            for (int r = 0; r < ARRAYS; r++) {
                there[r] = from.there[r];
            }
        }

        boolean hasSameBounds(Facts other) {
            for (int n = 0; n < NUMBERS; n++) {
                if (low[n] != other.low[n]) {
                    return false;
                }
            }
            for (int i = 0; i < high.length; i++) {
                if (high[i] != other.high[i]) {
                    return false;
                }
            }
            for (int r = 0; r < ARRAYS; r++) {
                if (there[r] != other.there[r]) {
                    return false;
                }
            }
            return true;
        }

        private static int boundedLow(int bound) {
            return bound < -GREATEST_BOUND ? NO_LEAST : bound;
        }

        private static int boundedHigh(int bound) {
            return bound > GREATEST_BOUND ? FREE : bound;
        }

        /** The highest that the number c has against the value of array r. */
        private int highOfConstant(int c, int r) {
            if (value[r] == NULL_VALUE) {
                return FREE;
            }
            return boundedHigh(size[r] == FREE ? c : c - size[r]);
        }

        private boolean isSameArray(int r, int other) {
            return value[r] == value[other] && value[r] != NULL_VALUE;
        }

        private void markThere(int array) {
            for (int r = 0; r < ARRAYS; r++) {
                if (isSameArray(r, array)) {
                    there[r] = true;
                }
            }
        }

        void setConstant(int x, int c) {
            known[x] = c;
            low[x] = c;
            for (int r = 0; r < ARRAYS; r++) {
                high[x * ARRAYS + r] = highOfConstant(c, r);
            }
        }

        void setSum(int x, int y, int z) {
            known[x] = known[y] == FREE ? FREE : known[y] + z;
            low[x] = boundedLow(low[y] + z);
            for (int r = 0; r < ARRAYS; r++) {
                high[x * ARRAYS + r] = boundedHigh(high[y * ARRAYS + r] + z);
            }
        }

        void setAnything(int x) {
            known[x] = FREE;
            low[x] = NO_LEAST;
            for (int r = 0; r < ARRAYS; r++) {
                high[x * ARRAYS + r] = FREE;
            }
        }

        void setLength(int x, int array) {
            markThere(array);
            setAnything(x);
            low[x] = 0;
            for (int r = 0; r < ARRAYS; r++) {
                if (isSameArray(r, array)) {
                    high[x * ARRAYS + r] = 0;
                }
            }
        }

        void useIndex(int array, int n) {
            markThere(array);
            low[n] = Math.max(low[n], 0);
            for (int r = 0; r < ARRAYS; r++) {
                if (isSameArray(r, array)) {
                    high[n * ARRAYS + r] = Math.min(high[n * ARRAYS + r], -1);
                }
            }
        }

        void setNew(int array, int y, int k) {
            low[y] = Math.max(low[y], 0);
            value[array] = FIRST_MADE_VALUE + k;
            size[array] = known[y];
            there[array] = true;
            for (int n = 0; n < NUMBERS; n++) {
                high[n * ARRAYS + array] = known[n] == FREE ? FREE : highOfConstant(known[n], array);
            }
            high[y * ARRAYS + array] = 0;
        }

        void setNull(int array) {
            value[array] = NULL_VALUE;
            size[array] = FREE;
            there[array] = false;
            for (int n = 0; n < NUMBERS; n++) {
                high[n * ARRAYS + array] = FREE;
            }
        }

        void setArray(int array, int from) {
            value[array] = value[from];
            size[array] = size[from];
            there[array] = there[from];
            for (int n = 0; n < NUMBERS; n++) {
                high[n * ARRAYS + array] = high[n * ARRAYS + from];
            }
        }

        /** Where nx < ny + z holds. */
        void assumeBelow(int x, int y, int z) {
            for (int r = 0; r < ARRAYS; r++) {
                int i = x * ARRAYS + r;
                int highOfY = y == ZERO ? highOfConstant(0, r) : high[y * ARRAYS + r];
                high[i] = Math.min(high[i], boundedHigh(highOfY + z - 1));
            }
            if (y != ZERO) {
                low[y] = Math.max(low[y], boundedLow(low[x] + 1 - z));
            }
        }

        /** Where nx < ny + z does not hold. */
        void assumeNotBelow(int x, int y, int z) {
            low[x] = Math.max(low[x], boundedLow((y == ZERO ? 0 : low[y]) + z));
            if (y != ZERO) {
                for (int r = 0; r < ARRAYS; r++) {
                    int i = y * ARRAYS + r;
                    high[i] = Math.min(high[i], boundedHigh(high[x * ARRAYS + r] - z));
                }
            }
        }

        void joinBounds(Facts other) {
            for (int n = 0; n < NUMBERS; n++) {
                low[n] = Math.min(low[n], other.low[n]);
            }
            for (int i = 0; i < high.length; i++) {
                high[i] = Math.max(high[i], other.high[i]);
            }
            for (int r = 0; r < ARRAYS; r++) {
                there[r] = there[r] && other.there[r];
            }
        }

        /** The join behind the END k of an if. */
        void joinWays(Facts other, int k) {
            joinBounds(other);
            for (int n = 0; n < NUMBERS; n++) {
                if (known[n] != other.known[n]) {
                    known[n] = FREE;
                }
            }
            for (int r = 0; r < ARRAYS; r++) {
                if (value[r] != other.value[r]) {
                    setJoinedValue(r, k);
                }
            }
        }

        /** What the while k does not keep of what comes to it, because statements within change it. */
        void forgetChanged(int numbers, int arrays, int k) {
            for (int n = 0; n < NUMBERS; n++) {
                if ((numbers >> n & 1) != 0) {
                    known[n] = FREE;
                }
            }
            for (int r = 0; r < ARRAYS; r++) {
                if ((arrays >> r & 1) != 0) {
                    setJoinedValue(r, k);
                }
            }
        }

        private void setJoinedValue(int r, int k) {
            value[r] = FIRST_JOINED_VALUE + k * ARRAYS + r;
            size[r] = FREE;
        }
    }

    /** Finds out what is known before each statement, and which checks are needless. */
    private static final class Finder {
        /**
         * More than any program needs: it goes back to a while only when a bound moved at its END,
         * where 10 leasts move by less than 7000 steps and 40 highest by less than 14000; there
         * are at most 32 whiles, and at most 64 arrivals from one going back to the next.
         */
        private static final int MOST_ARRIVALS = 2000000000;

        final Program program = new Program();
        final Facts[] before = new Facts[MOST_STATEMENTS];
        final int[] checksNeedless = new int[MOST_STATEMENTS];
        private final boolean[] reached = new boolean[MOST_STATEMENTS];
        /** Whether something moved from which what is known before the statement follows. */
        private final boolean[] due = new boolean[MOST_STATEMENTS + 1];
        /** What is known on the way that is just being followed. */
        private final Facts way = new Facts();
        private boolean worked;

        Finder() {
            for (int k = 0; k < before.length; k++) {
                before[k] = new Facts();
            }
        }

        void forgetAll() {
            worked = false;
        }

        /**
         * Goes down through the statements, and from a while's END back to it as long as bounds
         * move there. Each bound only moves one way, because looser bounds before a statement
         * never give tighter ones behind it: so the first ones that fit together are the
         * strongest. All else that is known stays as it was when its statement was first reached.
         */
        void work() {
            if (worked) {
                return;
            }
            markAllDue();
            int k = 0;
            for (int i = 0; k < program.count && i < MOST_ARRIVALS; i++) {
                boolean moved = due[k] && arrive(k);
                due[k] = false;
                k = moved ? passOn(k) : k + 1;
            }
            for (int j = 0; j < program.count; j++) {
                checksNeedless[j] = findNeedless(j);
            }
            worked = true;
        }

        private void markAllDue() {
            for (int k = 0; k < program.count; k++) {
                reached[k] = false;
                due[k] = true;
            }
        }

        int countNeedless() {
            int sum = 0;
            for (int k = 0; k < program.count; k++) {
                sum += Integer.bitCount(checksNeedless[k]);
            }
            return sum;
        }

        /** Answers whether what is known before statement k moved. */
        private boolean arrive(int k) {
            if (k == 0) {
                way.setFirst();
            } else {
                follow(k - 1);
            }
            if (program.sorts[k] == WHILE) {
                joinWhile(k);
            }
            if (reached[k] && before[k].hasSameBounds(way)) {
                return false;
            }
            before[k].copy(way);
            reached[k] = true;
            return true;
        }

        private void joinWhile(int k) {
            int end = program.endOf[k];
            if (reached[end]) {
                way.joinBounds(before[end]);
            }
            way.forgetChanged(program.numbersChanged[k], program.arraysChanged[k], k);
        }

        /**
         * Marks what follows from what is known before statement k; answers where to go on. What is
         * known before an ELSE moves only if it did before the if, which marks what is behind the END.
         */
        private int passOn(int k) {
            due[k + 1] = true;
            int sort = program.sorts[k];
            if (sort == IF || sort == WHILE) {
                due[program.endOf[k] + 1] = true;
                if (program.elseOf[k] != NONE) {
                    due[program.elseOf[k] + 1] = true;
                }
            }
            if (sort == END && program.sorts[program.headOf[k]] == WHILE) {
                due[program.headOf[k]] = true;
                return program.headOf[k];
            }
            return k + 1;
        }

        private void follow(int k) {
            int x = program.xs[k];
            int y = program.ys[k];
            int z = program.zs[k];
            way.copy(before[k]);
            switch (program.sorts[k]) {
                case SET:
                    way.setConstant(x, y);
                    break;
                case ADD:
                    way.setSum(x, y, z);
                    break;
                case READ:
                    way.setAnything(x);
                    break;
                case LENGTH:
                    way.setLength(x, y);
                    break;
                case LOAD:
                    way.useIndex(y, z);
                    way.setAnything(x);
                    break;
                case STORE:
                    way.useIndex(x, y);
                    break;
                case NEW:
                    way.setNew(x, y, k);
                    break;
                case NULL:
                    way.setNull(x);
                    break;
                case LET:
                    way.setArray(x, y);
                    break;
                case IF:
                case WHILE:
                    way.assumeBelow(x, y, z);
                    break;
                case ELSE:
                    takeOtherWay(program.headOf[k], NONE);
                    break;
                case END:
                    int head = program.headOf[k];
                    takeOtherWay(head, program.elseOf[head]);
                    if (program.sorts[head] == IF) {
                        way.joinWays(before[k], k);
                    }
                    break;
                default:
                    break;
            }
        }

        /** The way that comes to an ELSE, else the one on which the if or while does not hold. */
        private void takeOtherWay(int head, int elseAt) {
            if (elseAt != NONE) {
                way.copy(before[elseAt]);
                return;
            }
            way.copy(before[head]);
            way.assumeNotBelow(program.xs[head], program.ys[head], program.zs[head]);
        }

        private int findNeedless(int k) {
            Facts facts = before[k];
            int x = program.xs[k];
            int y = program.ys[k];
            switch (program.sorts[k]) {
                case LENGTH:
                    return facts.there[y] ? CHECK_NULL : 0;
                case LOAD:
                    return findNeedlessOfIndex(facts, y, program.zs[k]);
                case STORE:
                    return findNeedlessOfIndex(facts, x, y);
                default:
                    return 0;
            }
        }

        private static int findNeedlessOfIndex(Facts facts, int array, int index) {
            int sum = facts.there[array] ? CHECK_NULL : 0;
            if (facts.low[index] >= 0) {
                sum += CHECK_LOW;
            }
            if (facts.high[index * ARRAYS + array] <= -1) {
                sum += CHECK_HIGH;
            }
            return sum;
        }
    }

    /** The run. */
    private static final class Machine {
        final Inputs inputs = new Inputs();
        final Finder finder = new Finder();
        private final Program program = finder.program;
        final int[] numbers = new int[NUMBERS];
        /** Which of the arrays made each variable has, NONE for null. */
        private final int[] arrays = new int[ARRAYS];
        private final int[] lengths = new int[MOST_MADE];
        /** The places of all arrays made, LONGEST for each. */
        private final int[] places = new int[MOST_MADE * LONGEST];
        private final int[] kept = new int[MOST_OUTPUTS_KEPT];
        boolean begun;
        int status;
        private int at;
        private int done;
        private int checksMade;
        private int checksLeftOut;
        private int outputs;
        private int made;

        void leave() {
            begun = false;
        }

        void begin() {
            begun = true;
            at = 0;
            done = 0;
            checksMade = 0;
            checksLeftOut = 0;
            outputs = 0;
            made = 0;
            for (int n = 0; n < NUMBERS; n++) {
                numbers[n] = 0;
            }
            for (int r = 0; r < ARRAYS; r++) {
                arrays[r] = NONE;
            }
            status = program.count == 0 ? AT_END : GOES;
        }

        int advance(int most) {
            for (int i = 0; i < most; i++) {
                if (status != GOES) {
                    return i;
                }
                int next = perform(at);
                if (status != GOES) {
                    return i;
                }
                done++;
                at = next;
                if (at >= program.count) {
                    status = AT_END;
                }
            }
            return most;
        }

        /** Answers the statement that comes next; it has no meaning if the run stopped. */
        private int perform(int k) {
            int x = program.xs[k];
            int y = program.ys[k];
            int z = program.zs[k];
            switch (program.sorts[k]) {
                case IF:
                    return isBelow(x, y, z) ? k + 1 : behindFailedIf(k);
                case WHILE:
                    return isBelow(x, y, z) ? k + 1 : program.endOf[k] + 1;
                case ELSE:
                    return program.endOf[program.headOf[k]] + 1;
                case END:
                    int head = program.headOf[k];
                    return program.sorts[head] == WHILE ? head : k + 1;
                default:
                    performPlain(k, x, y, z);
                    return k + 1;
            }
        }

        private int behindFailedIf(int k) {
            int other = program.elseOf[k];
            return (other == NONE ? program.endOf[k] : other) + 1;
        }

        private boolean isBelow(int x, int y, int z) {
            int sum = sumOrStop(y == ZERO ? 0 : numbers[y], z);
            return numbers[x] < sum;
        }

        private int sumOrStop(int a, int b) {
            int sum = a + b;
            if (sum < -GREATEST_NUMBER || sum > GREATEST_NUMBER) {
                status = STOPPED_SUM;
            }
            return sum;
        }

        private void performPlain(int k, int x, int y, int z) {
            switch (program.sorts[k]) {
                case SET:
                    numbers[x] = y;
                    break;
                case ADD:
                    add(x, y, z);
                    break;
                case READ:
                    numbers[x] = inputs.takeNext();
                    break;
                case LENGTH:
                    if (passes(k, CHECK_NULL, lengthOf(y) != NONE, STOPPED_NULL)) {
                        numbers[x] = lengthOf(y);
                    }
                    break;
                case LOAD:
                    if (passesAll(k, y, numbers[z])) {
                        numbers[x] = placeOf(y, numbers[z]);
                    }
                    break;
                case STORE:
                    if (passesAll(k, x, numbers[y])) {
                        store(x, numbers[y], numbers[z]);
                    }
                    break;
                case NEW:
                    makeArray(x, numbers[y]);
                    break;
                case NULL:
                    arrays[x] = NONE;
                    break;
                case LET:
                    arrays[x] = arrays[y];
                    break;
                case WRITE:
                    kept[Math.floorMod(outputs, MOST_OUTPUTS_KEPT)] = numbers[x];
                    outputs++;
                    break;
                default:
                    break;
            }
        }

        private void add(int x, int y, int z) {
            int sum = sumOrStop(numbers[y], z);
            if (status == GOES) {
                numbers[x] = sum;
            }
        }

        private boolean passesAll(int k, int array, int index) {
            int length = lengthOf(array);
            return passes(k, CHECK_NULL, length != NONE, STOPPED_NULL)
                    && passes(k, CHECK_LOW, index >= 0, STOPPED_LOW)
                    && passes(k, CHECK_HIGH, index < length, STOPPED_HIGH);
        }

        private boolean passes(int k, int check, boolean holds, int stop) {
            if ((finder.checksNeedless[k] & check) != 0) {
                checksLeftOut++;
                return true;
            }
            checksMade++;
            if (!holds) {
                status = stop;
            }
            return holds;
        }

        private void makeArray(int array, int length) {
            if (length < 0 || length > LONGEST || made == MOST_MADE) {
                status = STOPPED_NEW;
                return;
            }
            arrays[array] = made;
            lengths[made] = length;
            for (int i = 0; i < length; i++) {
                places[made * LONGEST + i] = 0;
            }
            made++;
        }

        int lengthOf(int array) {
            int which = arrays[array];
            return which == NONE ? NONE : lengths[which];
        }

        private boolean hasPlace(int array, int i) {
            return i >= 0 && i < lengthOf(array);
        }

        int placeOf(int array, int i) {
            return hasPlace(array, i) ? places[arrays[array] * LONGEST + i] : FREE;
        }

        private void store(int array, int i, int v) {
            if (hasPlace(array, i)) {
                places[arrays[array] * LONGEST + i] = v;
            }
        }

        int outputBack(int k) {
            if (k < 0 || k >= MOST_OUTPUTS_KEPT || k >= outputs) {
                return FREE;
            }
            return kept[Math.floorMod(outputs - 1 - k, MOST_OUTPUTS_KEPT)];
        }

        int tell(int what) {
            switch (what) {
                case 0:
                    return at;
                case 1:
                    return status;
                case 2:
                    return done;
                case 3:
                    return checksMade;
                case 4:
                    return checksLeftOut;
                case 5:
                    return outputs;
                case 6:
                    return made;
                default:
                    return NONE;
            }
        }
    }
}
