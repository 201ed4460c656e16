/** The terms: the checks in their order, and all that stops a run, on both sides of each boundary. */
public final class TermsStopsTest extends Expect {
    private static final int GOES_ON = 1;
    private static final int BY_NULL = 2;
    private static final int BY_LOW = 3;
    private static final int BY_HIGH = 4;
    private static final int BY_SUM = 5;
    private static final int BY_NEW = 6;

    /** The last statement stops the run so, or it goes on to the end. */
    private static void dueEnd(String what, int end, int[] inputs, int[]... statements) {
        CheckSaver c = program(statements);
        giveAll(c, inputs);
        c.start();
        int last = statements.length - 1;
        due(what + ": how many, one that stops the run is none", c.run(2000), end == GOES_ON ? last + 1 : last);
        due(what + ": state(1)", c.state(1), end);
        due(what + ": state(0)", c.state(0), end == GOES_ON ? last + 1 : last);
        due(what + ": state(2)", c.state(2), end == GOES_ON ? last + 1 : last);
        dueThrow(what + ": run again", STATE, () -> c.run(2000));
    }

    private static void nulls() {
        sentence("of LENGTH, LOAD, STORE whether the array is there (NULL)");
        int[][] sorts = {s(LENGTH, 1, 0), s(LOAD, 1, 0, 0), s(STORE, 0, 0, 1)};
        for (int[] it : sorts) {
            dueEnd("null at first", BY_NULL, s(), it);
            dueEnd("null by NULL", BY_NULL, s(), s(SET, 2, 3), s(NEW, 0, 2), s(NULL, 0), it);
            dueEnd("null by LET", BY_NULL, s(), s(SET, 2, 3), s(NEW, 0, 2), s(LET, 0, 1), it);
            dueEnd("there", GOES_ON, s(), s(SET, 2, 3), s(NEW, 0, 2), it);
            dueEnd("there by LET", GOES_ON, s(), s(SET, 2, 3), s(NEW, 1, 2), s(LET, 0, 1), it);
        }
        dueEnd("LENGTH of no places", GOES_ON, s(), s(NEW, 0, 0), s(LENGTH, 1, 0));
    }

    private static void indices() {
        // READ, so that no check is needless by what is known of the index.
        for (int sort : new int[] {LOAD, STORE}) {
            String name = sort == LOAD ? "LOAD" : "STORE";
            int[] it = sort == LOAD ? s(LOAD, 2, 0, 1) : s(STORE, 0, 1, 2);
            int[][] of3 = {s(SET, 0, 3), s(NEW, 0, 0), s(READ, 1), it};
            sentence("of LOAD and STORE whether the index is not below 0 (LOW)");
            dueEnd(name + " at -1000000", BY_LOW, s(-1000000), of3);
            dueEnd(name + " at -1", BY_LOW, s(-1), of3);
            dueEnd(name + " at 0", GOES_ON, s(0), of3);
            sentence("of LOAD and STORE whether it is below the array's length (HIGH)");
            dueEnd(name + " at 2 of 3", GOES_ON, s(2), of3);
            dueEnd(name + " at 3 of 3", BY_HIGH, s(3), of3);
            dueEnd(name + " at 1000000", BY_HIGH, s(1000000), of3);
            int[][] of0 = {s(NEW, 0, 0), s(READ, 1), it};
            dueEnd(name + " at 0 of 0", BY_HIGH, s(0), of0);
            dueEnd(name + " at -1 of 0", BY_LOW, s(-1), of0);
            int[][] of40 = {s(SET, 0, 40), s(NEW, 0, 0), s(READ, 1), it};
            dueEnd(name + " at 39 of 40", GOES_ON, s(39), of40);
            dueEnd(name + " at 40 of 40", BY_HIGH, s(40), of40);
            sentence("CHECKS, in this order: NULL, LOW, HIGH");
            dueEnd(name + " of null at -1", BY_NULL, s(-1), s(READ, 1), it);
            dueEnd(name + " of null at 5", BY_NULL, s(5), s(READ, 1), it);
        }
    }

    /** The same indices by SET: some checks are needless now, and it must make no difference. */
    private static void knownIndices() {
        sentence("every run goes, and stops, just as if all had been made");
        for (int length : new int[] {0, 1, 3, 40}) {
            for (int index : new int[] {-100, -1, 0, 1, 2, 3, 39, 40, 41, 100}) {
                int end = index < 0 ? BY_LOW : index < length ? GOES_ON : BY_HIGH;
                int[][] made = {s(SET, 0, length), s(NEW, 0, 0), s(SET, 1, index)};
                dueEnd("LOAD at " + index + " of " + length, end, s(), join(made, s(LOAD, 2, 0, 1)));
                dueEnd("STORE at " + index + " of " + length, end, s(), join(made, s(STORE, 0, 1, 1)));
                dueEnd("LOAD of null at " + index, BY_NULL, s(), s(SET, 1, index), s(LOAD, 2, 0, 1));
            }
        }
    }

    private static void sums() {
        sentence("4 a sum (of ADD, IF, WHILE) that is not -1000000 .. 1000000");
        dueSum("ADD", s(ADD, 1, 0, 0));
        dueSum("IF", s(IF, 1, 0, 0));
        dueSum("WHILE", s(WHILE, 1, 0, 0));
        CheckSaver over = ranWith(s(1000000), s(SET, 1, 9), s(READ, 0), s(ADD, 1, 0, 1));
        due("a sum that stops the run is not set", over.number(1), 9);
        CheckSaver own = ranWith(s(-1000000), s(READ, 0), s(ADD, 0, 0, -1));
        due("nor in its own number", own.number(0), -1000000);
        dueEnd("0 in place of a number and 100", GOES_ON, s(-1000000), s(READ, 0), s(IF, 0, ZERO, 100), s(END));
        CheckSaver left = ranWith(s(1000000), s(READ, 0), s(IF, 0, 1, 1), s(END));
        due("nx alone may be 1000000: its side is no sum", left.state(1), GOES_ON);
    }

    private static void dueSum(String name, int[] statement) {
        int[][] cases = {
            {1000000, 0, 1}, {1000000, 1, 0}, {999999, 1, 1}, {999999, 2, 0}, {999900, 100, 1}, {999901, 100, 0}, {1000000, -1, 1},
            {-1000000, 0, 1}, {-1000000, -1, 0}, {-999999, -1, 1}, {-999999, -2, 0}, {-999900, -100, 1}, {-999901, -100, 0}, {-1000000, 1, 1},
        };
        for (int[] it : cases) {
            CheckSaver c = program(s(READ, 0), s(READ, 1), s(statement[0], statement[1], statement[2], it[1]));
            if (statement[0] != ADD) {
                tell(c, s(SET, 1, 0), s(SET, 0, 0), s(END));
            }
            // n1 is as great as can be: the condition does not hold.
            giveAll(c, it[0], 1000000);
            c.start();
            c.run(2000);
            String what = name + ": " + it[0] + " and " + it[1];
            due(what, c.state(1), it[2] == 1 ? GOES_ON : BY_SUM);
            due(what + ": one that stops the run is none", c.state(2), it[2] == 1 ? 3 : 2);
            if (it[2] == 0) {
                due(what + ": stopped at it", c.state(0), 2);
            }
        }
    }

    private static void lengths() {
        sentence("5 a length of NEW that is not 0 .. 40");
        for (int length : new int[] {-1000000, -100, -2, -1, 41, 42, 100, 1000000}) {
            dueEnd("NEW of " + length, BY_NEW, s(length), s(READ, 0), s(NEW, 0, 0));
        }
        for (int length : new int[] {0, 1, 39, 40}) {
            dueEnd("NEW of " + length, GOES_ON, s(length), s(READ, 0), s(NEW, 0, 0));
            due("its length", ranWith(s(length), s(READ, 0), s(NEW, 0, 0)).length(0), length);
        }
        for (int length : new int[] {-1, 41}) {
            dueEnd("NEW of a known length of " + length, BY_NEW, s(), s(SET, 0, length), s(NEW, 0, 0));
        }
        CheckSaver stopped = ran(s(SET, 0, 2), s(NEW, 0, 0), s(SET, 0, 41), s(NEW, 0, 0));
        due("a NEW that stops the run makes none", stopped.state(6), 1);
        due("and sets none", stopped.length(0), 2);
    }

    private static void manyArrays() {
        sentence("5 a 41st array of the run");
        CheckSaver c = started(s(WHILE, 0, ZERO, 41), s(NEW, 0, 1), s(ADD, 0, 0, 1), s(END), s(WRITE));
        due("40 are made", c.run(40 * 4), 160);
        due("arrays made", c.state(6), 40);
        due("it goes", c.state(1), 0);
        due("up to the 41st", c.run(2000), 1);
        due("which stops it", c.state(1), BY_NEW);
        due("at NEW", c.state(0), 1);
        due("arrays made, then", c.state(6), 40);
        c.start();
        due("a new run has none", c.state(6), 0);
        due("and makes 40 again", c.run(2000), 161);
        dueEnd40();

        CheckSaver largest = ran(s(SET, 0, 40), s(SET, 1, 39), s(WHILE, 2, ZERO, 40), s(NEW, 0, 0), s(STORE, 0, 1, 0), s(STORE, 0, 3, 0),
                s(ADD, 2, 2, 1), s(END));
        due("40 arrays of 40 places", largest.state(1), GOES_ON);
        due("the last place of all", largest.place(0, 39), 40);
        largest.start();
        largest.run(4);
        due("all 0 in a new run: the first place", largest.place(0, 0), 0);
        due("all 0 in a new run: the last place", largest.place(0, 39), 0);
    }

    private static void dueEnd40() {
        CheckSaver c = ran(s(WHILE, 0, ZERO, 40), s(NEW, 0, 1), s(ADD, 0, 0, 1), s(END), s(WRITE));
        due("40 and no more", c.state(1), GOES_ON);
        // Arrays that no variable has any more count, too.
        CheckSaver dropped = ran(s(WHILE, 0, ZERO, 41), s(NEW, 0, 1), s(NULL, 0), s(ADD, 0, 0, 1), s(END));
        due("a 41st when all others are dropped", dropped.state(1), BY_NEW);
    }

    public static void main(String[] args) {
        nulls();
        indices();
        knownIndices();
        sums();
        lengths();
        manyArrays();
        finish("TermsStopsTest");
    }
}
