/** Promise 9: run, and what each statement does when it is done. */
public final class Promise09RunTest extends Expect {
    private static void counts() {
        sentence("Up to n (1 .. 2000) statements are done: how many");
        int[][] ever = {s(WHILE, 0, 0, 1), s(END)};
        for (int n : new int[] {1, 2, 1999, 2000}) {
            CheckSaver c = started(ever);
            due("run(" + n + ")", c.run(n), n);
            due("done", c.state(2), n);
            due("it goes", c.state(1), 0);
            due("at the next", c.state(0), n % 2);
        }
        CheckSaver three = started(s(WRITE), s(WRITE), s(WRITE));
        due("one of three", three.run(1), 1);
        due("it goes", three.state(1), 0);
        due("two of two left", three.run(2), 2);
        due("the last one brings it to the end", three.state(1), 1);
        due("less than n when it comes to the end", started(s(WRITE), s(WRITE), s(WRITE)).run(4), 3);
        due("2000 of 64", fullOfWrites().run(2000), 64);

        sentence("IllegalArgumentException when n is not so");
        CheckSaver c = started(ever);
        for (int bad : new int[] {LEAST_INT, -1, 0, 2001, 2002, GREATEST_INT}) {
            dueThrow("run(" + bad + ")", ARGUMENT, () -> c.run(bad));
        }
        due("nothing was done", c.state(2), 0);
        due("it goes on", c.run(2000), 2000);
    }

    private static CheckSaver fullOfWrites() {
        CheckSaver c = new CheckSaver();
        tellTimes(c, 64, WRITE);
        c.start();
        return c;
    }

    private static void dueCannotRun(String what, CheckSaver c) {
        for (int n : new int[] {LEAST_INT, 0, 1, 2000, 2001}) {
            dueThrow(what + ": run(" + n + ")", STATE, () -> c.run(n));
        }
    }

    private static void noRun() {
        sentence("IllegalStateException when no run was begun, or it has stopped or is at the end; else IllegalArgumentException");
        CheckSaver c = program(s(WRITE), s(WRITE));
        dueCannotRun("not begun", c);
        c.start();
        dueThrow("begun, a wrong n", ARGUMENT, () -> c.run(0));
        c.run(1);
        dueThrow("within, a wrong n", ARGUMENT, () -> c.run(2001));
        c.run(1);
        dueCannotRun("at the end", c);
        due("nothing more was done", c.state(2), 2);
        c.start();
        c.put(WRITE, 0, 0, 0);
        dueCannotRun("over by put()", c);
        c.start();
        due("begun again", c.run(1), 1);
        c.clear();
        dueCannotRun("over by clear()", c);
        c.start();
        dueCannotRun("at the end without statements", c);
        CheckSaver stopped = ran(s(WRITE), s(LENGTH, 0, 0), s(WRITE));
        dueCannotRun("stopped", stopped);
        due("nothing more was done", stopped.state(2), 1);
        due("it stays stopped", stopped.state(1), 2);
    }

    private static CheckSaver going(int done) {
        CheckSaver c = program(s(SET, 0, 3), s(NEW, 0, 0), s(READ, 1), s(STORE, 0, 1, 0), s(WRITE, 1), s(LENGTH, 2, 1));
        giveAll(c, 2, 7);
        c.start();
        if (done > 0) {
            c.run(done);
        }
        return c;
    }

    private static void refused() {
        sentence("a run() that throws does nothing");
        for (int done : new int[] {0, 2, 5}) {
            dueUnchanged("run(0)", () -> going(done), 6, c -> dueThrow("it", ARGUMENT, () -> c.run(0)));
            dueUnchanged("run(2001)", () -> going(done), 6, c -> dueThrow("it", ARGUMENT, () -> c.run(2001)));
        }
        dueUnchanged("run(1) when stopped", () -> going(6), 6, c -> dueThrow("it", STATE, () -> c.run(1)));
    }

    /** Statements one by one: the one that comes next, behind each. */
    private static void dueSteps(String what, CheckSaver c, int... want) {
        for (int i = 0; i < want.length; i++) {
            due(what + ": step " + i, c.run(1), 1);
            due(what + ": behind step " + i, c.state(0), want[i]);
        }
    }

    private static CheckSaver withInputs(int[] inputs, int[]... statements) {
        CheckSaver c = program(statements);
        giveAll(c, inputs);
        c.start();
        return c;
    }

    private static void steps() {
        sentence("each IF, WHILE, ELSE, END that is come to is one");
        int[][] both = {s(READ, 0), s(IF, 0, ZERO, 3), s(SET, 1, 1), s(ELSE), s(SET, 1, 2), s(END), s(WRITE, 1)};
        dueSteps("it holds: ELSE goes on behind the END", withInputs(s(2), both), 1, 2, 3, 6, 7);
        dueSteps("it does not hold: behind its ELSE", withInputs(s(3), both), 1, 4, 5, 6, 7);
        int[][] one = {s(READ, 0), s(IF, 0, ZERO, 3), s(SET, 1, 1), s(END), s(WRITE, 1)};
        dueSteps("without ELSE, it holds", withInputs(s(2), one), 1, 2, 3, 4, 5);
        dueSteps("without ELSE, it does not hold: behind its END", withInputs(s(3), one), 1, 4, 5);
        dueSteps("an empty if that holds", started(s(IF, 0, ZERO, 1), s(END)), 1, 2);
        dueSteps("an empty if that does not hold", started(s(IF, 0, ZERO, 0), s(END)), 2);
        dueSteps("empty ways, it holds", started(s(IF, 0, ZERO, 1), s(ELSE), s(END)), 1, 3);
        dueSteps("empty ways, it does not hold", started(s(IF, 0, ZERO, 0), s(ELSE), s(END)), 2, 3);

        sentence("WHILE (its END goes back to it; where it does not hold, it goes on behind that)");
        dueSteps("twice", started(s(WHILE, 0, ZERO, 2), s(ADD, 0, 0, 1), s(END), s(WRITE)), 1, 2, 0, 1, 2, 0, 3, 4);
        dueSteps("never", started(s(WHILE, 0, ZERO, 0), s(ADD, 0, 0, 1), s(END), s(WRITE)), 3, 4);
        dueSteps("empty", started(s(WHILE, 0, ZERO, 1), s(END)), 1, 0, 1, 0);
        dueSteps("a while in an if in a while", started(s(WHILE, 0, ZERO, 1), s(IF, 0, ZERO, 1), s(WHILE, 1, ZERO, 1), s(ADD, 1, 1, 1), s(END),
                s(ELSE), s(END), s(ADD, 0, 0, 1), s(END)), 1, 2, 3, 4, 2, 5, 7, 8, 0, 9);
        CheckSaver nested = ran(s(WHILE, 0, ZERO, 3), s(SET, 1, 0), s(WHILE, 1, 0, 1), s(WRITE, 1), s(ADD, 1, 1, 1),
                s(END), s(ADD, 0, 0, 1), s(END));
        due("whiles in one another", nested.state(5), 1 + 2 + 3);

        sentence("ifs and whiles lie in one another, at most 8");
        int[][] deep = new int[17][];
        for (int i = 0; i < 8; i++) {
            deep[i] = s(i % 2 == 0 ? IF : WHILE, 0, ZERO, 1);
            deep[9 + i] = s(END);
        }
        deep[8] = s(ADD, 0, 0, 1);
        // The whiles are seventh, fifth, .. from the inside: each is gone back to once.
        dueSteps("eight", started(deep), 1, 2, 3, 4, 5, 6, 7, 8, 9, 7, 10, 11, 5, 12, 13, 3, 14, 15, 1, 16, 17);
    }

    private static void dueHolds(String what, int nx, int ny, int y, int z, boolean holds) {
        for (int sort : new int[] {IF, WHILE}) {
            CheckSaver c = withInputs(s(nx, ny), s(READ, 0), s(READ, 1), s(sort, 0, y, z), s(WRITE), s(END));
            c.run(3);
            due(what + (sort == IF ? ", IF" : ", WHILE"), c.state(0), holds ? 3 : 5);
        }
    }

    private static void conditions() {
        sentence("IF nx < ny + z, WHILE nx < ny + z");
        dueHolds("one below", 6, 5, 1, 2, true);
        dueHolds("the same", 7, 5, 1, 2, false);
        dueHolds("one above", 8, 5, 1, 2, false);
        dueHolds("z -100, one below", -96, 5, 1, -100, true);
        dueHolds("z -100, the same", -95, 5, 1, -100, false);
        dueHolds("z 100, one below", 104, 5, 1, 100, true);
        dueHolds("z 100, the same", 105, 5, 1, 100, false);
        dueHolds("nx < nx + 0", 5, 0, 0, 0, false);
        dueHolds("nx < nx + 1", 5, 0, 0, 1, true);
        dueHolds("the least below the greatest", -1000000, 1000000, 1, 0, true);
        dueHolds("the greatest below the least", 1000000, -1000000, 1, 0, false);

        sentence("In 9 and 12 y may be 10, too: 0 in place of ny");
        dueHolds("-1 < 0", -1, 77, ZERO, 0, true);
        dueHolds("0 < 0", 0, 77, ZERO, 0, false);
        dueHolds("99 < 0 + 100", 99, -77, ZERO, 100, true);
        dueHolds("100 < 0 + 100", 100, 77, ZERO, 100, false);
        dueHolds("-101 < 0 - 100", -101, -77, ZERO, -100, true);
        dueHolds("-100 < 0 - 100", -100, 77, ZERO, -100, false);
    }

    private static void deeds() {
        sentence("SET nx = y, -100 .. 100; ADD nx = ny + z, -100 .. 100");
        CheckSaver c = ran(s(SET, 0, -100), s(SET, 9, 100), s(ADD, 1, 0, -100), s(ADD, 2, 9, 100), s(ADD, 9, 9, -1), s(ADD, 3, 3, 0), s(SET, 4, 0));
        int[] want = {-100, -200, 200, 0, 0, 0, 0, 0, 0, 99};
        for (int n = 0; n < 10; n++) {
            due("n" + n, c.number(n), want[n]);
        }

        sentence("LOAD nx = place nz of ry, STORE place ny of rx = nz");
        CheckSaver a = ran(s(SET, 8, 3), s(NEW, 3, 8), s(SET, 9, 2), s(SET, 7, 50), s(STORE, 3, 9, 7), s(LOAD, 6, 3, 9), s(LOAD, 9, 3, 9));
        due("stored", a.place(3, 2), 50);
        due("beside it", a.place(3, 1), 0);
        due("loaded", a.number(6), 50);
        due("loaded into its own index", a.number(9), 50);
        CheckSaver own = ran(s(SET, 0, 2), s(NEW, 0, 0), s(SET, 1, 1), s(STORE, 0, 1, 1));
        due("an index stored at itself", own.place(0, 1), 1);

        sentence("LET rx = ry, NULL rx = null, NEW rx = an array of ny places, all 0");
        CheckSaver d = ran(s(SET, 0, 4), s(NEW, 0, 0), s(LET, 1, 0), s(SET, 1, 3), s(SET, 2, 77), s(STORE, 1, 1, 2),
                s(LOAD, 3, 0, 1), s(LENGTH, 4, 1), s(NULL, 1), s(NEW, 2, 0), s(ADD, 5, 3, -7), s(WRITE, 5));
        due("a LET array is the same one", d.number(3), 77);
        due("LENGTH", d.number(4), 4);
        due("NULL leaves the other variable alone", d.length(0), 4);
        due("NULL", d.length(1), NONE);
        due("a NEW array is another one", d.place(2, 3), 0);
        due("ADD, WRITE", d.output(0), 70);
        CheckSaver self = ran(s(SET, 0, 1), s(NEW, 0, 0), s(SET, 0, 0), s(LOAD, 0, 0, 0), s(LET, 0, 0), s(LENGTH, 1, 0));
        due("LET to itself", self.number(1), 1);
        due("LET of null", ran(s(NEW, 0, 0), s(LET, 0, 1)).length(0), NONE);
        CheckSaver kept = ran(s(SET, 0, 2), s(NEW, 0, 0), s(STORE, 0, 1, 0), s(LET, 1, 0), s(NEW, 0, 0), s(STORE, 1, 2, 0), s(NULL, 3));
        due("an array stays when its variable has another", kept.place(1, 0), 2);
        due("and the new one is all 0", kept.place(0, 0), 0);
    }

    public static void main(String[] args) {
        counts();
        noRun();
        refused();
        steps();
        conditions();
        deeds();
        finish("Promise09RunTest");
    }
}
