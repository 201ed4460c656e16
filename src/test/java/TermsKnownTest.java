/** The terms: what is known first, and behind each statement that is no IF, ELSE, END or WHILE. */
public final class TermsKnownTest extends Knowing {
    private static void first() {
        sentence("FIRST all numbers are known to be 0, with the least 0; all arrays are null");
        for (int n = 0; n < 10; n++) {
            due("least of n" + n, started(s(WRITE)).least(0, n), 0);
            if (n != 9) {
                due("n" + n + " is known to be 0", knownBehind(n), 0);
            }
        }
        due("n9 is known to be 0", highestBehind(9, 3, s(READ, 8), s(NEW, 3, 8)), 0);
        for (int r = 0; r < 4; r++) {
            due("highest against r" + r, started(s(WRITE)).highest(0, 0, r), FREE);
            dueThere("r" + r + " is not there", false, r);
        }
    }

    private static void set() {
        sentence("SET: nx is known to be y, least y");
        for (int y : new int[] {-100, -1, 0, 1, 100}) {
            due("known " + y, knownBehind(4, s(READ, 4), s(SET, 4, y)), y);
            due("least " + y, leastBehind(4, s(READ, 4), s(SET, 4, y)), y);
            sentence("SET: highest y less the known length of a value, y against one without");
            due("against 40 places", highestBehind(4, 1, s(SET, 0, 40), s(NEW, 1, 0), s(SET, 4, y)), y - 40);
            due("against 1 place", highestBehind(4, 1, s(SET, 0, 1), s(NEW, 1, 0), s(SET, 4, y)), y - 1);
            due("against 0 places", highestBehind(4, 1, s(SET, 0, 0), s(NEW, 1, 0), s(SET, 4, y)), y);
            due("against one without", highestBehind(4, 1, s(READ, 0), s(NEW, 1, 0), s(SET, 4, y)), y);
            due("against null", highestBehind(4, 1, s(SET, 4, y)), FREE);
        }
    }

    private static void add() {
        sentence("ADD: known to be c + z if ny was known to be c");
        for (int z : new int[] {-100, -1, 0, 1, 100}) {
            due("of another, " + z, knownBehind(4, s(SET, 5, 7), s(READ, 4), s(ADD, 4, 5, z)), 7 + z);
            due("of its own, " + z, knownBehind(4, s(SET, 4, 7), s(ADD, 4, 4, z)), 7 + z);
            due("the other stays, " + z, knownBehind(5, s(SET, 5, 7), s(ADD, 4, 5, z)), 7);
            due("of -1, " + z, knownBehind(4, s(SET, 5, -1), s(ADD, 4, 5, z)), z - 1);
            due("not known, " + z, knownBehind(4, s(SET, 4, 7), s(READ, 5), s(ADD, 4, 5, z)), FREE);
            due("not known: NEW of it, " + z, knownLengthBehind(0, s(READ, 5), s(ADD, 4, 5, z), s(NEW, 0, 4)), FREE);
            sentence("ADD: least and highest those of ny and z more");
            int[][] length = {s(READ, 9), s(NEW, 0, 9), s(LENGTH, 5, 0)};
            due("least, " + z, leastBehind(4, join(length, s(ADD, 4, 5, z))), z);
            due("highest, " + z, highestBehind(4, 0, join(length, s(ADD, 4, 5, z))), z);
            due("least of its own, " + z, leastBehind(5, join(length, s(ADD, 5, 5, z))), z);
            due("highest of its own, " + z, highestBehind(5, 0, join(length, s(ADD, 5, 5, z))), z);
            due("none and more is none: least", leastBehind(4, join(length, s(READ, 5), s(ADD, 4, 5, z))), FREE);
            due("none and more is none: highest", highestBehind(4, 0, join(length, s(READ, 5), s(ADD, 4, 5, z))), FREE);
            due("against null", highestBehind(4, 1, join(length, s(ADD, 4, 5, z))), FREE);
        }
        due("against another value", highestBehind(4, 2, s(SET, 1, 9), s(NEW, 2, 1), s(NEW, 0, 0), s(SET, 5, 3), s(ADD, 4, 5, 4)), -2);
    }

    private static void read() {
        sentence("READ, LOAD: nothing is known of nx");
        int[][] made = {s(SET, 0, 4), s(NEW, 0, 0), s(SET, 1, 3)};
        int[][] both = {s(READ, 1), s(LOAD, 1, 0, 2)};
        for (int[] it : both) {
            due("not known", knownBehind(1, join(made, it)), FREE);
            due("least", leastBehind(1, join(made, it)), FREE);
            due("highest", highestBehind(1, 0, join(made, it)), FREE);
        }
        int[][] own = join(made, s(LOAD, 1, 0, 1));
        due("LOAD into its own index: not known", knownBehind(1, own), FREE);
        due("LOAD into its own index: least", leastBehind(1, own), FREE);
        due("LOAD into its own index: highest", highestBehind(1, 0, own), FREE);
    }

    private static void length() {
        sentence("LENGTH: the value of ry is there");
        int[][] maybe = {s(READ, 0), s(IF, 0, ZERO, 0), s(NEW, 0, 1), s(END), s(LET, 1, 0)};
        dueThere("it was not", false, 0, maybe);
        dueThere("it is", true, 0, join(maybe, s(LENGTH, 2, 0)));
        dueThere("by another name, too", true, 1, join(maybe, s(LENGTH, 2, 0)));
        dueThere("null is never there", false, 3, s(LENGTH, 2, 3));
        dueThere("another null neither", false, 2, s(LENGTH, 2, 3));

        sentence("LENGTH: of nx the least is 0, the highest 0 against this value, none against others; it is not known");
        int[][] two = {s(SET, 4, 6), s(NEW, 0, 4), s(LET, 1, 0), s(NEW, 2, 4), s(SET, 5, 50), s(LENGTH, 5, 0)};
        due("least", leastBehind(5, two), 0);
        due("highest", highestBehind(5, 0, two), 0);
        due("by another name", highestBehind(5, 1, two), 0);
        due("against another of the same length", highestBehind(5, 2, two), FREE);
        due("against null", highestBehind(5, 3, two), FREE);
        due("not known, whatever the known length", knownBehind(5, two), FREE);
        due("the value keeps its known length", knownLengthBehind(0, two), 6);
        due("of null: least", leastBehind(5, s(SET, 5, -3), s(LENGTH, 5, 1)), 0);
        due("of null: highest", highestBehind(5, 1, s(LENGTH, 5, 1)), FREE);
        due("of null: not known", knownBehind(5, s(LENGTH, 5, 1)), FREE);
    }

    private static void index() {
        for (int sort : new int[] {LOAD, STORE}) {
            int[] it = sort == LOAD ? s(LOAD, 8, 0, 1) : s(STORE, 0, 1, 8);
            sentence("LOAD, STORE: the value is there");
            int[][] maybe = {s(READ, 0), s(IF, 0, ZERO, 0), s(NEW, 0, 1), s(END), s(LET, 2, 0)};
            dueThere("it was not", false, 0, maybe);
            dueThere("it is", true, 0, join(maybe, it));
            dueThere("by another name, too", true, 2, join(maybe, it));
            dueThere("null is never there", false, 0, it);

            sentence("LOAD, STORE: the index has the greater one of its least and 0");
            for (int least : new int[] {-100, -1, 0, 1, 50}) {
                due("least " + least, leastBehind(1, join(R0, join(bounded(1, least, NO), it))), Math.max(least, 0));
            }
            due("no least", leastBehind(1, join(R0, s(READ, 1), it)), 0);
            due("of null, too", leastBehind(1, s(SET, 1, -4), it), 0);

            sentence("LOAD, STORE: the lower one of its highest against this value and -1");
            for (int highest : new int[] {-100, -2, -1, 0, 99}) {
                due("highest " + highest, highestBehind(1, 0, join(R0, join(bounded(1, NO, highest), it))), Math.min(highest, -1));
            }
            int[][] three = join(R0, s(LET, 1, 0), s(READ, 9), s(NEW, 2, 9), s(READ, 1), it);
            due("no highest", highestBehind(1, 0, three), -1);
            due("by another name", highestBehind(1, 1, three), -1);
            due("not against another", highestBehind(1, 2, three), FREE);
            due("not against null", highestBehind(1, 3, three), FREE);
            due("of null: none", highestBehind(1, 0, s(READ, 1), it), FREE);
            due("a known index stays known", knownBehind(1, join(R0, s(SET, 1, 5), it)), 5);
        }
        sentence("STORE: of nz all stays");
        due("least", leastBehind(2, join(R0, s(SET, 2, -9), s(STORE, 0, 1, 2))), -9);
        due("highest", highestBehind(2, 0, join(R0, s(SET, 2, 9), s(STORE, 0, 1, 2))), 9);
    }

    private static void make() {
        sentence("NEW: ny has the greater one of its least and 0");
        for (int least : new int[] {-100, -1, 0, 1, 50}) {
            due("least " + least, leastBehind(1, join(R0, join(bounded(1, least, NO), s(NEW, 1, 1)))), Math.max(least, 0));
        }
        due("no least", leastBehind(1, s(READ, 1), s(NEW, 1, 1)), 0);

        sentence("NEW: rx has the new value, which is there");
        dueThere("it is", true, 1, s(NEW, 1, 1));
        int[][] again = {s(NEW, 1, 1), s(LET, 2, 1), s(NEW, 1, 1), s(LENGTH, 3, 1)};
        due("it is another than before", highestBehind(3, 2, again), FREE);
        due("against it", highestBehind(3, 1, again), 0);
        dueThere("the one before stays there", true, 2, again);

        sentence("NEW: against it the highest of ny is 0");
        for (int c : new int[] {-100, 0, 5, 40, 100}) {
            due("known to be " + c, highestBehind(1, 1, s(SET, 1, c), s(NEW, 1, 1)), 0);
        }
        due("not known", highestBehind(1, 1, s(READ, 1), s(NEW, 1, 1)), 0);

        sentence("NEW: that of another number known to be c is c less the known length, c without one; of others none");
        for (int c : new int[] {-100, -1, 0, 7, 100}) {
            due(c + " less 7", highestBehind(2, 1, s(SET, 2, c), s(SET, 1, 7), s(NEW, 1, 1)), c - 7);
            due(c + " less 0", highestBehind(2, 1, s(SET, 2, c), s(SET, 1, 0), s(NEW, 1, 1)), c);
            due(c + " without one", highestBehind(2, 1, s(SET, 2, c), s(READ, 1), s(NEW, 1, 1)), c);
        }
        due("of n0", highestBehind(0, 1, s(SET, 1, 7), s(NEW, 1, 1)), -7);
        due("of n9", highestBehind(9, 1, s(SET, 1, 7), s(NEW, 1, 1)), -7);
        due("of one that is not known", highestBehind(2, 1, s(READ, 2), s(SET, 1, 7), s(NEW, 1, 1)), FREE);
        due("of one that had a highest against the value before",
                highestBehind(2, 1, s(READ, 1), s(NEW, 1, 1), s(LENGTH, 2, 1), s(NEW, 1, 1)), FREE);
        due("of another by the same sum", highestBehind(2, 1, s(READ, 1), s(ADD, 2, 1, 0), s(NEW, 1, 1)), FREE);

        sentence("each NEW makes one, with a KNOWN LENGTH, if its ny is known");
        for (int c : new int[] {0, 1, 40}) {
            due("known to be " + c, knownLengthBehind(1, s(SET, 1, c), s(NEW, 1, 1)), c == 0 ? FREE : c);
        }
        due("0 as the first", knownLengthBehind(1, s(NEW, 1, 1)), FREE);
        due("not known", knownLengthBehind(1, s(READ, 1), s(NEW, 1, 1)), FREE);
        due("a length that is not known", knownLengthBehind(1, s(SET, 1, 5), s(NEW, 0, 1), s(LENGTH, 1, 0), s(NEW, 1, 1)), FREE);
        due("a sum", knownLengthBehind(1, s(SET, 1, 5), s(ADD, 2, 1, 3), s(NEW, 1, 2)), 8);
        due("the number changes behind it", knownLengthBehind(1, s(SET, 1, 5), s(NEW, 1, 1), s(SET, 1, 9)), 5);
        due("one that stops every run", knownLengthBehind(1, s(SET, 1, 41), s(NEW, 1, 1)), 41);
        due("another that does", knownLengthBehind(1, s(SET, 1, -1), s(NEW, 1, 1)), -1);
        due("as the last of 64", lastNew(), 0);
    }

    private static int lastNew() {
        CheckSaver c = program(s(SET, 1, 3));
        tellTimes(c, 61, NEW, 1, 1);
        tell(c, s(NEW, 2, 1), s(LENGTH, 3, 2));
        c.start();
        return c.highest(63, 1, 2);
    }

    private static void nullAndLet() {
        sentence("NULL, LET: rx has that value");
        int[][] made = {s(SET, 1, 7), s(NEW, 1, 1), s(SET, 2, 5), s(READ, 3), s(NEW, 2, 3)};
        due("NULL: highest", highestBehind(2, 1, join(made, s(NULL, 1))), FREE);
        dueThere("NULL: not there", false, 1, join(made, s(NULL, 1)));
        due("LET: highest", highestBehind(2, 3, join(made, s(LET, 3, 1))), -2);
        dueThere("LET: there", true, 3, join(made, s(LET, 3, 1)));
        due("LET: known length", knownLengthBehind(3, join(made, s(LET, 3, 1))), 7);
        due("LET: no known length", knownLengthBehind(1, join(made, s(LET, 1, 2))), FREE);
        due("LET of null: highest", highestBehind(2, 1, join(made, s(LET, 1, 0))), FREE);
        dueThere("LET of null: not there", false, 1, join(made, s(LET, 1, 0)));
        due("LET to itself", highestBehind(2, 1, join(made, s(LET, 1, 1))), -2);
        due("LET behind NULL: the other still has it", highestBehind(2, 3, join(made, s(LET, 3, 1), s(NULL, 1))), -2);
        due("it has the value that ry had then", highestBehind(2, 3, join(made, s(LET, 3, 1), s(LET, 1, 2))), -2);

        sentence("Against null all highest are none, and null is never there");
        int[][] all = {s(SET, 0, 1), s(ADD, 0, 0, -50), s(STORE, 3, 0, 0), s(LOAD, 1, 3, 0), s(LENGTH, 2, 3)};
        for (int n = 0; n < 10; n++) {
            due("n" + n, highestBehind(n, 3, all), FREE);
        }
        dueThere("behind three checks", false, 3, all);
        int[][] below = {s(SET, 0, -50), s(IF, 1, 0, 0), s(WHILE, 2, ZERO, -50)};
        due("where an IF holds", started(join(below, s(END), s(END))).highest(2, 1, 3), FREE);
        due("where a WHILE holds", started(join(below, s(END), s(END))).highest(3, 2, 3), FREE);
    }

    private static void stays() {
        sentence("behind each statement (of what it does not name all stays)");
        int[][] made = {s(SET, 1, -7), s(READ, 2), s(NEW, 0, 2), s(LENGTH, 3, 0), s(SET, 4, 5), s(NEW, 1, 4), s(LENGTH, 5, 1), s(ADD, 6, 3, -3),
            s(LET, 2, 0), s(LOAD, 7, 1, 8)};
        int[][] sorts = {s(SET, 9, 5), s(ADD, 9, 4, 1), s(READ, 9), s(LENGTH, 9, 0), s(LOAD, 9, 0, 9), s(STORE, 0, 9, 9), s(NEW, 3, 9),
            s(NULL, 3), s(LET, 3, 1), s(WRITE, 1)};
        for (int[] it : sorts) {
            CheckSaver c = started(join(made, it, s(WRITE)));
            for (int n = 1; n <= 8; n++) {
                due("least of n" + n + " behind " + it[0], c.least(11, n), c.least(10, n));
                for (int r = 0; r <= 2; r++) {
                    due("highest of n" + n + ", r" + r + " behind " + it[0], c.highest(11, n, r), c.highest(10, n, r));
                }
            }
            due("n4 is known behind " + it[0], knownBehind(4, join(made, it)), 5);
            due("n2 is not known behind " + it[0], knownBehind(2, join(made, it)), FREE);
            due("r1 has a known length behind " + it[0], knownLengthBehind(1, join(made, it)), 5);
            due("r0 has none behind " + it[0], knownLengthBehind(0, join(made, it)), FREE);
            dueThere("r1 is there behind " + it[0], true, 1, join(made, it));
        }
    }

    public static void main(String[] args) {
        first();
        set();
        add();
        read();
        length();
        index();
        make();
        nullAndLet();
        stays();
        finish("TermsKnownTest");
    }
}
