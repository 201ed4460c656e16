/** Promise 11: state. */
public final class Promise11StateTest extends Expect {
    private static void dueStates(String what, CheckSaver c, int... want) {
        for (int i = 0; i < want.length; i++) {
            due(what + ": state(" + i + ")", c.state(i), want[i]);
        }
    }

    private static void ofTheRun() {
        sentence("Of the run: 0 the statement that comes next, 1: 0 it goes; 2 statements done, 3 checks made, 4 checks left out, 5 outputs, 6 arrays made");
        CheckSaver c = program(s(SET, 0, 2), s(NEW, 0, 0), s(READ, 1), s(LOAD, 2, 0, 1), s(LOAD, 2, 0, 1), s(WRITE, 1),
                s(LENGTH, 3, 1));
        giveAll(c, 1, -1, 2);
        c.start();
        dueStates("begun", c, 0, 0, 0, 0, 0, 0, 0);
        c.run(3);
        dueStates("three done", c, 3, 0, 3, 0, 0, 0, 1);
        c.run(1);
        dueStates("one check left out, two made", c, 4, 0, 4, 2, 1, 0, 1);
        c.run(1);
        dueStates("all left out", c, 5, 0, 5, 2, 4, 0, 1);
        c.run(1);
        dueStates("an output", c, 6, 0, 6, 2, 4, 1, 1);

        sentence("3 checks made (also one that failed)");
        c.run(1);
        dueStates("stopped by null", c, 6, 2, 6, 3, 4, 1, 1);
        c.start();
        c.run(2000);
        dueStates("stopped by an index below 0: no check behind it", c, 3, 3, 3, 1, 1, 0, 1);
        c.start();
        c.run(2000);
        dueStates("stopped by an index beyond the end", c, 3, 4, 3, 2, 1, 0, 1);

        sentence("4 checks left out: those that are come to");
        CheckSaver low = ran(s(SET, 0, 2), s(NEW, 0, 0), s(SET, 1, -1), s(STORE, 0, 1, 1));
        due("HIGH is needless behind LOW that fails", low.needless(3), 5);
        dueStates("what is not come to is not left out", low, 3, 3, 3, 1, 1, 0, 1);
        CheckSaver null0 = ran(s(LOAD, 1, 0, 0));
        due("LOW is needless behind NULL that fails", null0.needless(0), 2);
        dueStates("what is not come to is not left out", null0, 0, 2, 0, 1, 0, 0, 0);
        CheckSaver round = ran(s(SET, 0, 3), s(NEW, 0, 0), s(WHILE, 1, ZERO, 5), s(LENGTH, 2, 0), s(ADD, 1, 1, 1), s(END));
        dueStates("each time that it is come to", round, 6, 1, 23, 0, 5, 0, 1);
    }

    private static void ends() {
        sentence("0 (at the end as many as there are), 1: 1 it is at the end");
        dueStates("at the end", ran(s(WRITE), s(WRITE)), 2, 1, 2, 0, 0, 2, 0);
        CheckSaver full = new CheckSaver();
        tellTimes(full, 64, WRITE);
        full.start();
        full.run(63);
        dueStates("before the last of 64", full, 63, 0, 63, 0, 0, 63, 0);
        full.run(1);
        dueStates("at the end of 64", full, 64, 1, 64, 0, 0, 64, 0);
        CheckSaver empty = new CheckSaver();
        empty.start();
        dueStates("at the end of none", empty, 0, 1, 0, 0, 0, 0, 0);
        dueStates("by a while that does not hold", ran(s(WHILE), s(END)), 2, 1, 1, 0, 0, 0, 0);
        dueStates("by an if that does not hold", ran(s(IF), s(WRITE), s(END)), 3, 1, 1, 0, 0, 0, 0);
        dueStates("by an ELSE", ran(s(IF, 0, ZERO, 1), s(ELSE), s(END)), 3, 1, 2, 0, 0, 0, 0);
        CheckSaver going = started(s(WHILE, 0, ZERO, 1), s(END));
        going.run(2);
        dueStates("a while as the last one goes back", going, 0, 0, 2, 0, 0, 0, 0);

        sentence("0 the statement that stopped it, 1: 2 .. 6 stopped by 1 .. 5");
        dueStates("1 NULL", ran(s(WRITE), s(LENGTH, 0, 0), s(WRITE)), 1, 2, 1, 1, 0, 1, 0);
        dueStates("2 LOW", ran(s(SET, 0, -1), s(NEW, 0, 1), s(LOAD, 1, 0, 0), s(WRITE)), 2, 3, 2, 1, 1, 0, 1);
        dueStates("3 HIGH", ran(s(NEW, 0, 1), s(LOAD, 1, 0, 0), s(WRITE)), 1, 4, 1, 1, 2, 0, 1);
        dueStates("4 a sum", ranWith(s(1000000), s(READ, 0), s(ADD, 0, 0, 1), s(WRITE)), 1, 5, 1, 0, 0, 0, 0);
        dueStates("5 NEW", ran(s(WHILE, 0, 0, 1), s(IF, 0, ZERO, 1), s(SET, 0, 100), s(END), s(NEW, 0, 0),
                s(END)), 4, 6, 4, 0, 0, 0, 0);
    }

    private static void none() {
        sentence("NONE when no run was begun, or for another what");
        CheckSaver c = program(s(WRITE));
        dueStates("before start()", c, -1, -1, -1, -1, -1, -1, -1, -1);
        c.start();
        c.run(1);
        dueStates("begun", c, 1, 1, 1, 0, 0, 1, 0, -1);
        for (int what : new int[] {LEAST_INT, -2, -1, 7, 8, GREATEST_INT}) {
            due("state(" + what + ")", c.state(what), NONE);
        }
        tell(c, s(WRITE));
        dueStates("behind put()", c, -1, -1, -1, -1, -1, -1, -1);
        c.start();
        c.clear();
        dueStates("behind clear()", c, -1, -1, -1, -1, -1, -1, -1);
        CheckSaver open = program(s(IF));
        dueThrow("a start() that throws", STATE, () -> open.start());
        dueStates("begins none", open, -1, -1, -1, -1, -1, -1, -1);
    }

    private static void largeCounts() {
        sentence("2 statements done, 5 outputs, over many calls of run");
        CheckSaver c = started(s(WHILE, 0, 0, 1), s(WRITE, 0), s(END));
        for (int i = 0; i < 9; i++) {
            c.run(2000);
        }
        dueStates("18000 done", c, 0, 0, 18000, 0, 0, 6000, 0);
    }

    public static void main(String[] args) {
        ofTheRun();
        ends();
        none();
        largeCounts();
        finish("Promise11StateTest");
    }
}
