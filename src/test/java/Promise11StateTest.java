/** Promise 11: state. */
public final class Promise11StateTest extends Expect {
    private static void dueStates(String what, CheckSaver c, int... want) {
        for (int i = 0; i < want.length; i++) {
            due(what + ": state(" + i + ")", c.state(i), want[i]);
        }
    }

    public static void main(String[] args) {
        CheckSaver c = program(s(SET, 0, 2), s(NEW, 0, 0), s(READ, 1), s(LOAD, 2, 0, 1), s(LOAD, 2, 0, 1), s(WRITE, 1),
                s(LENGTH, 3, 1));
        dueStates("before start()", c, -1, -1, -1, -1, -1, -1, -1);
        c.give(1);
        c.start();
        dueStates("begun", c, 0, 0, 0, 0, 0, 0, 0);
        c.run(3);
        dueStates("three done", c, 3, 0, 3, 0, 0, 0, 1);
        c.run(1);
        dueStates("one check left out, two made", c, 4, 0, 4, 2, 1, 0, 1);
        c.run(1);
        dueStates("all left out", c, 5, 0, 5, 2, 4, 0, 1);
        c.run(2000);
        dueStates("stopped by null, a check made", c, 6, 2, 6, 3, 4, 1, 1);
        due("state(-1)", c.state(-1), NONE);
        due("state(7)", c.state(7), NONE);

        c.give(-1);
        c.start();
        c.run(2000);
        dueStates("stopped by an index below 0: no check behind it", c, 3, 3, 3, 1, 1, 0, 1);
        c.give(2);
        c.start();
        c.run(2000);
        dueStates("stopped by an index beyond the end", c, 3, 4, 3, 2, 1, 0, 1);

        // HIGH is needless here, but it is not come to when LOW fails.
        CheckSaver low = ran(s(SET, 0, 2), s(NEW, 0, 0), s(SET, 1, -1), s(STORE, 0, 1, 1));
        due("HIGH is needless", low.needless(3), 5);
        dueStates("what is not come to is not left out", low, 3, 3, 3, 1, 1, 0, 1);

        CheckSaver end = ran(s(WRITE), s(WRITE));
        dueStates("at the end", end, 2, 1, 2, 0, 0, 2, 0);
        end.clear();
        dueStates("behind clear()", end, -1, -1, -1, -1, -1, -1, -1);
        dueStates("stopped by NEW", ran(s(WHILE, 0, 0, 1), s(IF, 0, 10, 1), s(SET, 0, 100), s(END), s(NEW, 0, 0),
                s(END)), 4, 6, 4, 0, 0, 0, 0);
        finish("Promise11StateTest");
    }
}
