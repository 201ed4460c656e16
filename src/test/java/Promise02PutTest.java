/** Promise 2: put. */
public final class Promise02PutTest extends Expect {
    private static final int LEAST_INT = Integer.MIN_VALUE;
    private static final int GREATEST_INT = Integer.MAX_VALUE;

    /** For each sort the least and the greatest x, y and z. */
    private static final int[][] RANGES = {
        {0, 9, -100, 100, 0, 0}, {0, 9, 0, 9, -100, 100}, {0, 9, 0, 0, 0, 0}, {0, 9, 0, 3, 0, 0},
        {0, 9, 0, 3, 0, 9}, {0, 3, 0, 9, 0, 9}, {0, 3, 0, 9, 0, 0}, {0, 3, 0, 0, 0, 0},
        {0, 3, 0, 3, 0, 0}, {0, 9, 0, 10, -100, 100}, {0, 0, 0, 0, 0, 0}, {0, 0, 0, 0, 0, 0},
        {0, 9, 0, 10, -100, 100}, {0, 9, 0, 0, 0, 0},
    };

    private static void dueRefused(int sort, int x, int y, int z) {
        // An open if, so that ELSE and END could belong to something.
        CheckSaver c = program(s(IF));
        dueThrow("put(" + sort + ", " + x + ", " + y + ", " + z + ")", ARGUMENT, () -> c.put(sort, x, y, z));
        due("a refused statement is none", c.clear(), 1);
    }

    private static void ranges() {
        for (int sort = 0; sort < RANGES.length; sort++) {
            int[] g = RANGES[sort];
            due("put of sort " + sort + " with its least", program(s(IF)).put(sort, g[0], g[2], g[4]), 2);
            due("put of sort " + sort + " with its greatest", program(s(IF)).put(sort, g[1], g[3], g[5]), 2);
            for (int bad : new int[] {LEAST_INT, g[0] - 1, g[1] + 1, GREATEST_INT}) {
                dueRefused(sort, bad, g[2], g[4]);
            }
            for (int bad : new int[] {LEAST_INT, g[2] - 1, g[3] + 1, GREATEST_INT}) {
                dueRefused(sort, g[0], bad, g[4]);
            }
            for (int bad : new int[] {LEAST_INT, g[4] - 1, g[5] + 1, GREATEST_INT}) {
                dueRefused(sort, g[0], g[2], bad);
            }
        }
        for (int sort : new int[] {LEAST_INT, -1, 14, GREATEST_INT}) {
            dueRefused(sort, 0, 0, 0);
        }
    }

    private static void belonging() {
        CheckSaver c = new CheckSaver();
        dueThrow("ELSE alone", ARGUMENT, () -> c.put(ELSE, 0, 0, 0));
        dueThrow("END alone", ARGUMENT, () -> c.put(END, 0, 0, 0));
        tell(c, s(IF));
        due("ELSE of an if", c.put(ELSE, 0, 0, 0), 2);
        dueThrow("a second ELSE", ARGUMENT, () -> c.put(ELSE, 0, 0, 0));
        tell(c, s(WHILE));
        dueThrow("ELSE of a while", ARGUMENT, () -> c.put(ELSE, 0, 0, 0));
        tell(c, s(END));
        dueThrow("a second ELSE behind a while", ARGUMENT, () -> c.put(ELSE, 0, 0, 0));
        tell(c, s(IF), s(ELSE), s(END), s(END));
        dueThrow("an END too many", ARGUMENT, () -> c.put(END, 0, 0, 0));
        due("ELSE of a while with an if around", program(s(IF), s(WHILE), s(END)).put(ELSE, 0, 0, 0), 4);
    }

    private static void limits() {
        CheckSaver deep = new CheckSaver();
        for (int i = 0; i < 8; i++) {
            due("if or while " + i, deep.put(i % 2 == 0 ? IF : WHILE, 0, 0, 0), i + 1);
        }
        due("a ninth if", deep.put(IF, 0, 0, 0), NONE);
        due("a ninth while", deep.put(WHILE, 0, 0, 0), NONE);
        dueThrow("a ninth if that does not fit", ARGUMENT, () -> deep.put(IF, 0, 11, 0));
        due("others go in there", deep.put(WRITE, 0, 0, 0), 9);
        due("its END", deep.put(END, 0, 0, 0), 10);
        due("then another", deep.put(IF, 0, 0, 0), 11);

        CheckSaver full = new CheckSaver();
        for (int i = 0; i < 64; i++) {
            due("statement " + i, full.put(WRITE, 0, 0, 0), i + 1);
        }
        due("a 65th", full.put(WRITE, 0, 0, 0), NONE);
        due("a 65th if", full.put(IF, 0, 0, 0), NONE);
        dueThrow("a 65th of no sort", ARGUMENT, () -> full.put(14, 0, 0, 0));
        dueThrow("a 65th END with nothing open", ARGUMENT, () -> full.put(END, 0, 0, 0));
        due("no more than 64", full.clear(), 64);

        CheckSaver open = program(s(WHILE));
        for (int i = 1; i < 64; i++) {
            open.put(WRITE, 0, 0, 0);
        }
        due("a 65th END", open.put(END, 0, 0, 0), NONE);
        dueThrow("its while stays open", STATE, () -> open.start());
    }

    private static void runIsOver() {
        CheckSaver c = started(s(WRITE));
        dueThrow("a wrong put", ARGUMENT, () -> c.put(WRITE, 10, 0, 0));
        due("no run is over by a wrong put", c.state(1), 0);
        due("the run goes on", c.run(1), 1);
        dueThrow("a wrong put at the end", ARGUMENT, () -> c.put(END, 0, 0, 0));
        due("nor one at the end", c.output(0), 0);
        due("a put", c.put(WRITE, 1, 0, 0), 2);
        due("state of a run that is over", c.state(1), NONE);
        due("output of a run that is over", c.output(0), FREE);
        due("number of a run that is over", c.number(0), FREE);
        dueThrow("run of a run that is over", STATE, () -> c.run(1));
        dueThrow("needless of a run that is over", STATE, () -> c.needless(0));

        for (int i = 2; i < 64; i++) {
            c.put(WRITE, 0, 0, 0);
        }
        c.start();
        due("a put that answers NONE", c.put(WRITE, 0, 0, 0), NONE);
        due("ends the run, too", c.state(1), NONE);
    }

    public static void main(String[] args) {
        ranges();
        belonging();
        limits();
        runIsOver();
        finish("Promise02PutTest");
    }
}
