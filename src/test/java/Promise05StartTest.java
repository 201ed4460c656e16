/** Promise 5: start. */
public final class Promise05StartTest extends Expect {
    private static void withoutStatements() {
        sentence("a run begins at statement 0 (without statements it is at the end)");
        CheckSaver empty = new CheckSaver();
        due("start() without statements", empty.start(), 0);
        due("is at the end", empty.state(1), 1);
        due("behind no statement", empty.state(0), 0);
        due("nothing done", empty.state(2), 0);
        due("with its numbers", empty.number(9), 0);
        dueThrow("it can't run", STATE, () -> empty.run(1));
        CheckSaver one = started(s(WRITE));
        due("with a statement it goes", one.state(1), 0);
        due("at statement 0", one.state(0), 0);
        due("it can run", one.run(1), 1);
    }

    private static void withoutEnd() {
        sentence("IllegalStateException when an if or while has no END");
        CheckSaver c = program(s(IF));
        dueThrow("an if without END", STATE, () -> c.start());
        due("no run then", c.state(1), NONE);
        dueThrow("nothing is known then", STATE, () -> c.needless(0));
        tell(c, s(WHILE), s(END));
        dueThrow("an if without END around a while", STATE, () -> c.start());
        tell(c, s(ELSE));
        dueThrow("an if with an ELSE alone", STATE, () -> c.start());
        tell(c, s(END));
        due("start() with every END", c.start(), 0);
        dueThrow("a while without END", STATE, () -> program(s(WHILE)).start());
        dueThrow("a while with the END of an if alone", STATE, () -> program(s(WHILE), s(IF), s(END)).start());
        due("a while with its END", program(s(WHILE), s(END)).start(), 0);

        CheckSaver deep = new CheckSaver();
        tellTimes(deep, 8, IF);
        for (int i = 0; i < 8; i++) {
            dueThrow("8 ifs with " + i + " ENDs", STATE, () -> deep.start());
            tell(deep, s(END));
        }
        due("8 ifs with 8 ENDs", deep.start(), 0);
        due("goes", deep.state(1), 0);

        sentence("IllegalStateException: nothing changes");
        CheckSaver open = program(s(READ, 0), s(WHILE), s(WRITE));
        open.give(5);
        dueThrow("start()", STATE, () -> open.start());
        due("inputs stay", open.give(6), 2);
        due("statements stay", open.put(END, 0, 0, 0), 4);
        open.start();
        open.run(1);
        due("no input was read", open.number(0), 5);
    }

    private static void howManyNeedless() {
        sentence("start: how many checks are needless");
        due("no checks at all", program(s(WRITE)).start(), 0);
        due("a check that is not needless", program(s(LENGTH, 0, 0)).start(), 0);
        due("a check of statement 0", program(s(LOAD)).start(), 1);
        CheckSaver c = program(s(SET, 0, 3), s(NEW, 0, 0), s(SET, 1, 2), s(LOAD, 2, 0, 1), s(STORE, 0, 0, 1), s(LENGTH, 3, 1));
        due("3 of LOAD, 2 of STORE, 0 of LENGTH", c.start(), 5);
        due("start() again", c.start(), 5);
        c.run(2000);
        due("start() behind the run", c.start(), 5);

        CheckSaver most = program(s(SET, 0, 40), s(NEW, 0, 0));
        tellTimes(most, 62, LOAD, 1, 0, 2);
        due("all three of 62 statements", most.start(), 186);

        sentence("What is known is worked out");
        CheckSaver grows = program(s(LENGTH, 0, 0));
        due("null is never there", grows.start(), 0);
        grows.clear();
        tell(grows, s(NEW, 0, 0), s(LENGTH, 0, 0));
        due("anew behind clear()", grows.start(), 1);
        tell(grows, s(LENGTH, 1, 0));
        due("with a statement more", grows.start(), 2);
        tell(grows, s(WHILE, 5, ZERO, 3), s(NULL, 0), s(LENGTH, 2, 0), s(END));
        due("with a while more", grows.start(), 2);
    }

    private static void worksAnew() {
        sentence("What is known is worked out: of this program alone");
        int[][] all = new int[30][];
        for (int n = 0; n < 10; n++) {
            all[n] = s(SET, n, 30);
            all[10 + n] = s(NEW, n % 4, n);
            all[20 + n] = s(ADD, n, n, -50);
        }
        CheckSaver c = started(all);
        c.clear();
        tell(c, s(WRITE), s(SET, 5, 3), s(NEW, 2, 5), s(WRITE));
        c.start();
        for (int n = 0; n < 10; n++) {
            due("least of n" + n, c.least(0, n), 0);
            due("highest of n" + n, c.highest(0, n, n % 4), FREE);
            due("n" + n + " was known to be 0", c.highest(3, n, 2), n == 5 ? 0 : -3);
        }

        CheckSaver round = started(s(SET, 1, 5), s(WHILE, 8, ZERO, 0), s(SET, 1, -50), s(END), s(WRITE));
        due("a least before a while", round.least(1, 1), -50);
        round.clear();
        tell(round, s(SET, 1, 5), s(WHILE, 8, ZERO, 0), s(SET, 1, 4), s(END), s(WRITE));
        round.start();
        due("another program: a least before a while", round.least(1, 1), 4);

        CheckSaver same = started(s(SET, 1, 5), s(READ, 2), s(NEW, 0, 2), s(WRITE), s(SET, 3, 7), s(WRITE));
        due("a highest, no known length", same.highest(5, 3, 0), 7);
        same.clear();
        tell(same, s(SET, 1, 5), s(ADD, 2, 3, 0), s(NEW, 0, 2), s(SET, 1, 5), s(NEW, 1, 1), s(WRITE));
        same.start();
        due("another program: 0 less 5", same.highest(5, 2, 1), -5);
    }

    private static void begins() {
        sentence("a run begins at statement 0 (inputs stay)");
        CheckSaver c = program(s(SET, 0, 3), s(NEW, 3, 0), s(WRITE, 0), s(LOAD, 1, 3, 1), s(READ, 4), s(LENGTH, 1, 0));
        giveAll(c, 8, 9, 10);
        c.start();
        for (int done = 0; done <= 5; done++) {
            if (done > 0) {
                c.run(done);
            }
            c.start();
            for (int what = 0; what <= 6; what++) {
                due("a new run behind " + done + ", state(" + what + ")", c.state(what), 0);
            }
            for (int n = 0; n < 10; n++) {
                due("its numbers are 0", c.number(n), 0);
            }
            for (int r = 0; r < 4; r++) {
                due("its arrays are null", c.length(r), NONE);
            }
            due("it has no outputs", c.output(0), FREE);
        }
        due("an input that was read is gone, others stay", c.give(11), 3);
        c.run(2000);
        due("it has stopped", c.state(1), 2);
        due("the next input is read", c.number(4), 9);
        c.start();
        due("it goes again", c.state(1), 0);
        due("to the same stop", c.run(2000), 5);
        due("with the input behind it", c.number(4), 10);
    }

    public static void main(String[] args) {
        withoutStatements();
        withoutEnd();
        howManyNeedless();
        worksAnew();
        begins();
        finish("Promise05StartTest");
    }
}
