/** Promise 2: put. */
public final class Promise02PutTest extends Expect {
    /** For each sort the least and the greatest x, y and z. */
    private static final int[][] RANGES = {
        {0, 9, -100, 100, 0, 0}, {0, 9, 0, 9, -100, 100}, {0, 9, 0, 0, 0, 0}, {0, 9, 0, 3, 0, 0},
        {0, 9, 0, 3, 0, 9}, {0, 3, 0, 9, 0, 9}, {0, 3, 0, 9, 0, 0}, {0, 3, 0, 0, 0, 0},
        {0, 3, 0, 3, 0, 0}, {0, 9, 0, 10, -100, 100}, {0, 0, 0, 0, 0, 0}, {0, 0, 0, 0, 0, 0},
        {0, 9, 0, 10, -100, 100}, {0, 9, 0, 0, 0, 0},
    };

    private static void dueTaken(int sort, int x, int y, int z) {
        // An open if, so that ELSE and END could belong to something.
        due("put(" + sort + ", " + x + ", " + y + ", " + z + ")", program(s(IF)).put(sort, x, y, z), 2);
    }

    private static void dueRefused(int sort, int x, int y, int z) {
        CheckSaver c = program(s(IF));
        dueThrow("put(" + sort + ", " + x + ", " + y + ", " + z + ")", ARGUMENT, () -> c.put(sort, x, y, z));
        due("a refused statement is none", c.clear(), 1);
    }

    private static void sorts() {
        sentence("IllegalArgumentException when sort is not 0 .. 13");
        for (int sort = 0; sort <= 13; sort++) {
            dueTaken(sort, 0, 0, 0);
        }
        for (int sort : new int[] {LEAST_INT, -2, -1, 14, 15, GREATEST_INT}) {
            dueRefused(sort, 0, 0, 0);
        }
    }

    private static void ranges() {
        sentence("IllegalArgumentException when x, y or z is not as said (0 where none is said)");
        for (int sort = 0; sort < RANGES.length; sort++) {
            int[] g = RANGES[sort];
            for (int x = g[0]; x <= g[1]; x++) {
                dueTaken(sort, x, g[2], g[4]);
                dueTaken(sort, x, g[3], g[5]);
            }
            for (int y = g[2]; y <= g[3]; y++) {
                dueTaken(sort, g[1], y, g[5]);
            }
            for (int z = g[4]; z <= g[5]; z++) {
                dueTaken(sort, g[1], g[3], z);
            }
            for (int bad : new int[] {LEAST_INT, g[0] - 1, g[1] + 1, GREATEST_INT}) {
                dueRefused(sort, bad, g[2], g[4]);
            }
            for (int bad : new int[] {LEAST_INT, g[2] - 1, g[3] + 1, GREATEST_INT}) {
                dueRefused(sort, g[0], bad, g[4]);
            }
            for (int bad : new int[] {LEAST_INT, g[4] - 1, g[5] + 1, GREATEST_INT}) {
                dueRefused(sort, g[0], g[2], bad);
            }
        }
    }

    private static void belonging() {
        sentence("IllegalArgumentException when an ELSE or END has nothing to belong to");
        CheckSaver c = new CheckSaver();
        dueThrow("ELSE alone", ARGUMENT, () -> c.put(ELSE, 0, 0, 0));
        dueThrow("END alone", ARGUMENT, () -> c.put(END, 0, 0, 0));
        tell(c, s(WRITE));
        dueThrow("ELSE behind another statement", ARGUMENT, () -> c.put(ELSE, 0, 0, 0));
        dueThrow("END behind another statement", ARGUMENT, () -> c.put(END, 0, 0, 0));
        tell(c, s(IF), s(END));
        dueThrow("ELSE behind the END of an if", ARGUMENT, () -> c.put(ELSE, 0, 0, 0));
        dueThrow("END behind the END of an if", ARGUMENT, () -> c.put(END, 0, 0, 0));
        tell(c, s(WHILE));
        dueThrow("ELSE of a while", ARGUMENT, () -> c.put(ELSE, 0, 0, 0));
        due("END of a while", c.put(END, 0, 0, 0), 5);
        dueThrow("END behind the END of a while", ARGUMENT, () -> c.put(END, 0, 0, 0));

        sentence("ifs and whiles lie in one another; an if has at most one ELSE");
        CheckSaver d = program(s(IF));
        due("ELSE of an if", d.put(ELSE, 0, 0, 0), 2);
        dueThrow("a second ELSE", ARGUMENT, () -> d.put(ELSE, 0, 0, 0));
        tell(d, s(WHILE));
        dueThrow("ELSE of a while in an if", ARGUMENT, () -> d.put(ELSE, 0, 0, 0));
        tell(d, s(END));
        dueThrow("a second ELSE behind a while", ARGUMENT, () -> d.put(ELSE, 0, 0, 0));
        tell(d, s(IF), s(ELSE), s(END));
        dueThrow("a second ELSE behind an if with one", ARGUMENT, () -> d.put(ELSE, 0, 0, 0));
        due("the last END", d.put(END, 0, 0, 0), 8);
        dueThrow("an END too many", ARGUMENT, () -> d.put(END, 0, 0, 0));
        due("an ELSE behind an if and a while within",
                program(s(IF), s(WHILE), s(END), s(IF), s(ELSE), s(END)).put(ELSE, 0, 0, 0), 7);
        CheckSaver open = program(s(IF), s(WHILE));
        dueThrow("ELSE of an if in which a while is open", ARGUMENT, () -> open.put(ELSE, 0, 0, 0));
    }

    private static void full() {
        sentence("The next statement: how many there are; NONE when there are 64");
        CheckSaver c = new CheckSaver();
        for (int i = 0; i < 64; i++) {
            due("statement " + i, c.put(WRITE, 0, 0, 0), i + 1);
        }
        for (int sort : new int[] {SET, ADD, READ, LENGTH, LOAD, STORE, NEW, NULL, LET, IF, WHILE, WRITE}) {
            due("a 65th of sort " + sort, c.put(sort, 0, 0, 0), NONE);
        }
        due("no if is open behind it", c.start(), 0);
        due("no more than 64 run", c.run(2000), 64);
        due("no more than 64", c.clear(), 64);

        CheckSaver open = program(s(IF));
        tellTimes(open, 63, WRITE);
        due("a 65th ELSE", open.put(ELSE, 0, 0, 0), NONE);
        due("a 65th END", open.put(END, 0, 0, 0), NONE);
        dueThrow("its if stays open", STATE, () -> open.start());
        due("64 with an open if", open.clear(), 64);

        CheckSaver closed = program(s(IF));
        tellTimes(closed, 62, WRITE);
        due("a 64th END", closed.put(END, 0, 0, 0), 64);
        due("it belongs to the if", closed.start(), 0);
        due("the if does not hold", closed.run(2000), 1);
        due("behind the 64th", closed.state(0), 64);

        sentence("IllegalArgumentException, ahead of NONE (when there are 64)");
        dueThrow("a 65th of no sort", ARGUMENT, () -> closed.put(14, 0, 0, 0));
        dueThrow("a 65th with a wrong x", ARGUMENT, () -> closed.put(WRITE, 10, 0, 0));
        dueThrow("a 65th with a wrong y", ARGUMENT, () -> closed.put(SET, 0, 101, 0));
        dueThrow("a 65th with a wrong z", ARGUMENT, () -> closed.put(ADD, 0, 0, -101));
        dueThrow("a 65th END with nothing open", ARGUMENT, () -> closed.put(END, 0, 0, 0));
        dueThrow("a 65th ELSE with nothing open", ARGUMENT, () -> closed.put(ELSE, 0, 0, 0));
        due("one that fits", closed.put(WRITE, 0, 0, 0), NONE);
    }

    private static void deep() {
        sentence("NONE when more than 8 ifs and whiles would lie in one another");
        for (int first : new int[] {IF, WHILE}) {
            for (int second : new int[] {IF, WHILE}) {
                CheckSaver c = new CheckSaver();
                for (int i = 0; i < 8; i++) {
                    due("if or while " + i, c.put(i % 2 == 0 ? first : second, 0, 0, 0), i + 1);
                }
                due("a ninth if", c.put(IF, 0, 0, 0), NONE);
                due("a ninth while", c.put(WHILE, 0, 0, 0), NONE);
                due("others go in there", c.put(WRITE, 0, 0, 0), 9);
                due("END of the eighth", c.put(END, 0, 0, 0), 10);
                due("another eighth", c.put(IF, 0, 0, 0), 11);
                due("its ELSE", c.put(ELSE, 0, 0, 0), 12);
                due("a ninth behind ELSE", c.put(WHILE, 0, 0, 0), NONE);
                tellTimes(c, 8, END);
                dueThrow("no more than 8 are open", ARGUMENT, () -> c.put(END, 0, 0, 0));
                due("all have an END", c.start(), 0);
                due("how many there are", c.clear(), 20);
            }
        }
        CheckSaver row = new CheckSaver();
        for (int i = 0; i < 20; i++) {
            tell(row, s(i % 2 == 0 ? IF : WHILE), s(END));
        }
        due("one behind another they are not in one another", row.clear(), 40);

        sentence("IllegalArgumentException, ahead of NONE (when 8 lie in one another)");
        CheckSaver d = new CheckSaver();
        tellTimes(d, 8, WHILE);
        dueThrow("a ninth if with a wrong x", ARGUMENT, () -> d.put(IF, 10, 0, 0));
        dueThrow("a ninth if with a wrong y", ARGUMENT, () -> d.put(IF, 0, 11, 0));
        dueThrow("a ninth while with a wrong z", ARGUMENT, () -> d.put(WHILE, 0, 0, 101));
        due("a ninth that fits", d.put(WHILE, 0, 0, 100), NONE);
    }

    private static void dueNoRun(String what, CheckSaver c) {
        due(what + ": state", c.state(1), NONE);
        due(what + ": output", c.output(0), FREE);
        due(what + ": number", c.number(0), FREE);
        due(what + ": length", c.length(0), NONE);
        due(what + ": place", c.place(0, 0), FREE);
        dueThrow(what + ": run", STATE, () -> c.run(1));
        dueThrow(what + ": needless", STATE, () -> c.needless(0));
        dueThrow(what + ": least", STATE, () -> c.least(0, 0));
        dueThrow(what + ": highest", STATE, () -> c.highest(0, 0, 0));
    }

    private static void runIsOver() {
        sentence("A run is over then, whatever it answers");
        int[][] statements = {s(SET, 0, 2), s(NEW, 0, 0), s(WRITE, 0), s(LENGTH, 1, 0)};
        for (int done : new int[] {0, 3, 4}) {
            CheckSaver c = started(statements);
            if (done > 0) {
                c.run(done);
            }
            due("a put", c.put(WRITE, 1, 0, 0), 5);
            dueNoRun("behind a put at " + done, c);
        }
        CheckSaver stopped = ran(s(WRITE), s(LENGTH, 1, 0));
        tell(stopped, s(WRITE));
        dueNoRun("behind a put when it had stopped", stopped);

        for (int done : new int[] {0, 3, 64}) {
            CheckSaver c = program(statements);
            tellTimes(c, 60, WRITE);
            c.start();
            if (done > 0) {
                c.run(done);
            }
            due("a 65th", c.put(WRITE, 0, 0, 0), NONE);
            dueNoRun("behind NONE at " + done, c);
            due("another run begins", c.start(), 1);
            due("and goes", c.run(2000), 64);
        }
    }

    private static void inputsStay() {
        sentence("The next statement: inputs stay, whatever put answers");
        CheckSaver c = new CheckSaver();
        c.give(8);
        tellTimes(c, 64, READ, 0);
        due("behind a put", c.give(9), 2);
        c.put(WRITE, 0, 0, 0);
        due("behind NONE", c.give(10), 3);
        dueThrow("a wrong put", ARGUMENT, () -> c.put(WRITE, 10, 0, 0));
        due("behind a wrong put", c.give(11), 4);
    }

    private static CheckSaver going(int done) {
        CheckSaver c = program(s(SET, 0, 3), s(NEW, 0, 0), s(READ, 1), s(STORE, 0, 1, 0), s(WRITE, 1), s(LENGTH, 2, 1));
        giveAll(c, 2, 7);
        c.start();
        if (done > 0) {
            c.run(done);
        }
        return c;
    }

    private static void refused() {
        sentence("IllegalArgumentException (and nothing changes, no run is over)");
        int[][] wrong = {
            {-1, 0, 0, 0}, {14, 0, 0, 0}, {SET, -1, 0, 0}, {SET, 10, 0, 0}, {SET, 0, -101, 0}, {SET, 0, 101, 0}, {SET, 0, 0, 1},
            {NEW, 4, 0, 0}, {ADD, 0, 10, 0}, {LOAD, 0, 0, 10}, {IF, 0, 11, 0}, {WHILE, 0, 0, 101}, {ELSE, 0, 0, 0}, {END, 0, 0, 0},
        };
        for (int[] w : wrong) {
            for (int done : new int[] {0, 4, 6}) {
                dueUnchanged("put(" + w[0] + ", " + w[1] + ", " + w[2] + ", " + w[3] + ") at " + done, () -> going(done), 6,
                        c -> dueThrow("it", ARGUMENT, () -> c.put(w[0], w[1], w[2], w[3])));
            }
        }
        CheckSaver open = program(s(IF), s(ELSE));
        dueThrow("a second ELSE", ARGUMENT, () -> open.put(ELSE, 0, 0, 0));
        due("its if is still open", open.put(END, 0, 0, 0), 3);
        due("and goes behind the first ELSE", open.start() + open.run(1), 1);
        due("at its END", open.state(0), 2);
    }

    public static void main(String[] args) {
        sorts();
        ranges();
        belonging();
        full();
        deep();
        runIsOver();
        inputsStay();
        refused();
        finish("Promise02PutTest");
    }
}
