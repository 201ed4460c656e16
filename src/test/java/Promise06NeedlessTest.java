/** Promise 6: needless. */
public final class Promise06NeedlessTest extends Expect {
    public static void main(String[] args) {
        CheckSaver none = new CheckSaver();
        dueThrow("needless(0) without a run", STATE, () -> none.needless(0));
        dueThrow("needless(-1) without a run", STATE, () -> none.needless(-1));
        none.start();
        dueThrow("needless(0) without statements", INDEX, () -> none.needless(0));

        CheckSaver c = started(s(SET, 0, 3), s(NEW, 0, 0), s(SET, 1, 2), s(LOAD, 2, 0, 1), s(LOAD, 2, 0, 0),
                s(SET, 3, -1), s(STORE, 0, 3, 2), s(LENGTH, 4, 0), s(LENGTH, 5, 1), s(LOAD, 5, 1, 1),
                s(READ, 6), s(STORE, 0, 6, 6), s(STORE, 0, 6, 6));
        due("SET has no checks", c.needless(0), 0);
        due("NEW has no checks", c.needless(1), 0);
        due("LOAD within", c.needless(3), 7);
        due("LOAD one beyond the end", c.needless(4), 3);
        due("STORE below 0", c.needless(6), 5);
        due("LENGTH of one that is there", c.needless(7), 1);
        due("LENGTH of null", c.needless(8), 0);
        due("LOAD of null: its index alone", c.needless(9), 2);
        due("STORE at an index of which nothing is known", c.needless(11), 1);
        due("STORE there once more", c.needless(12), 7);
        dueThrow("needless(-1)", INDEX, () -> c.needless(-1));
        dueThrow("needless(13)", INDEX, () -> c.needless(13));
        c.run(2000);
        due("needless of a run that has stopped", c.needless(3), 7);
        c.put(WRITE, 0, 0, 0);
        dueThrow("needless behind put()", STATE, () -> c.needless(3));
        dueThrow("needless behind put(), of no statement", STATE, () -> c.needless(99));
        c.start();
        due("needless of a new run", c.needless(3), 7);
        c.clear();
        dueThrow("needless behind clear()", STATE, () -> c.needless(3));
        due("needless(0)", started(s(LOAD)).needless(0), 2);
        finish("Promise06NeedlessTest");
    }
}
