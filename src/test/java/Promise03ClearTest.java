/** Promise 3: clear. */
public final class Promise03ClearTest extends Expect {
    private static void howMany() {
        sentence("clear: how many statements there were");
        CheckSaver c = new CheckSaver();
        due("of a new object", c.clear(), 0);
        tell(c, s(WRITE));
        due("one", c.clear(), 1);
        due("none any more", c.clear(), 0);
        tellTimes(c, 63, WRITE);
        due("63", c.clear(), 63);
        tellTimes(c, 64, WRITE);
        due("64", c.clear(), 64);
        due("64 go in again, the first", c.put(WRITE, 0, 0, 0), 1);
        tellTimes(c, 63, WRITE);
        due("a 65th does not", c.put(WRITE, 0, 0, 0), NONE);
        due("a 65th is none of them", c.clear(), 64);
    }

    private static void noProgram() {
        sentence("clear: No program");
        CheckSaver c = program(s(IF), s(ELSE), s(WHILE));
        due("with an open if and while", c.clear(), 3);
        dueThrow("END has nothing to belong to", ARGUMENT, () -> c.put(END, 0, 0, 0));
        dueThrow("ELSE has nothing to belong to", ARGUMENT, () -> c.put(ELSE, 0, 0, 0));
        due("nothing is open", c.start(), 0);
        due("nothing runs", c.state(1), 1);
        for (int i = 0; i < 8; i++) {
            due("8 lie in one another again", c.put(WHILE, 0, 0, 0), i + 1);
        }
        due("a ninth", c.put(WHILE, 0, 0, 0), NONE);

        CheckSaver used = started(s(IF, 0, 0, 0), s(ELSE), s(END));
        used.clear();
        tell(used, s(IF, 0, 0, 0), s(WRITE), s(END));
        due("an ELSE of the program before is none", used.start(), 0);
        due("so its if goes behind its END", used.run(2000), 1);
        due("behind the third", used.state(0), 3);

        CheckSaver known = started(s(SET, 0, 4), s(NEW, 0, 0), s(SET, 1, 50), s(LOAD, 2, 0, 0), s(LENGTH, 3, 0));
        known.clear();
        tell(known, s(READ, 4), s(SET, 5, 1), s(LENGTH, 3, 0), s(WRITE), s(WRITE));
        due("what was known is known no more", known.start(), 0);
        due("its leasts", known.least(4, 1), 0);
        due("its highest ones", known.highest(4, 1, 0), FREE);
        due("its needless checks", known.needless(4), 0);
    }

    private static void noInputs() {
        sentence("clear: no inputs");
        CheckSaver c = program(s(READ, 3), s(WRITE, 3));
        giveAll(c, 8, 9);
        c.clear();
        due("none waits", c.give(1), 1);
        c.clear();
        tell(c, s(READ, 3), s(WRITE, 3));
        c.start();
        c.run(2000);
        due("a cleared input is not read", c.output(0), 0);
        c.clear();
        for (int i = 1; i <= 64; i++) {
            due("64 wait again", c.give(i), i);
        }
        due("a 65th", c.give(65), NONE);
        c.clear();
        due("none of 64 waits", c.give(5), 1);
        tell(c, s(READ, 0));
        c.start();
        c.run(1);
        due("the first of the new ones", c.number(0), 5);
    }

    private static void noRun() {
        sentence("clear: no run");
        for (int done = 0; done <= 4; done++) {
            CheckSaver c = started(s(SET, 0, 5), s(NEW, 0, 0), s(WRITE, 0), s(LENGTH, 1, 1));
            if (done > 0) {
                c.run(done);
            }
            due("it was begun", c.state(0), Math.min(done, 3));
            due("clear()", c.clear(), 4);
            for (int what = 0; what <= 6; what++) {
                due("state(" + what + ")", c.state(what), NONE);
            }
            due("number", c.number(0), FREE);
            due("length", c.length(0), NONE);
            due("place", c.place(0, 0), FREE);
            due("output", c.output(0), FREE);
            dueThrow("run", STATE, () -> c.run(1));
            dueThrow("needless", STATE, () -> c.needless(0));
            dueThrow("least", STATE, () -> c.least(0, 0));
            dueThrow("highest", STATE, () -> c.highest(0, 0, 0));
        }
        CheckSaver empty = new CheckSaver();
        empty.start();
        due("clear() of a run without statements", empty.clear(), 0);
        due("it is no run any more", empty.state(1), NONE);
    }

    public static void main(String[] args) {
        howMany();
        noProgram();
        noInputs();
        noRun();
        finish("Promise03ClearTest");
    }
}
