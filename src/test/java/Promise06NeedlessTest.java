/** Promise 6: needless. */
public final class Promise06NeedlessTest extends Expect {
    private static void sums() {
        sentence("Which checks of a statement are needless: the sum of 1 NULL, 2 LOW, 4 HIGH");
        CheckSaver c = started(s(SET, 0, 3), s(NEW, 0, 0), s(SET, 1, 2), s(LOAD, 2, 0, 1), s(LOAD, 2, 0, 0),
                s(SET, 3, -1), s(STORE, 0, 3, 2), s(LENGTH, 4, 0), s(LENGTH, 5, 1), s(LOAD, 5, 1, 1),
                s(READ, 6), s(STORE, 0, 6, 6), s(STORE, 0, 6, 6));
        due("LOAD within: all", c.needless(3), 7);
        due("LOAD one beyond the end: NULL and LOW", c.needless(4), 3);
        due("STORE below 0: NULL and HIGH", c.needless(6), 5);
        due("LENGTH of one that is there: NULL", c.needless(7), 1);
        due("LENGTH of null: none", c.needless(8), 0);
        due("LOAD of null: LOW of its index alone", c.needless(9), 2);
        due("STORE at an index of which nothing is known: NULL", c.needless(11), 1);
        due("STORE there once more: all", c.needless(12), 7);

        int[][] mayBeNull = {s(READ, 0), s(SET, 1, 5), s(IF, 0, ZERO, 0), s(NEW, 0, 1), s(END)};
        due("null on one way, index not known", started(join(mayBeNull, s(READ, 2), s(LOAD, 3, 0, 2))).needless(6), 0);
        due("null on one way, index 0", started(join(mayBeNull, s(SET, 2, 0), s(LOAD, 3, 0, 2))).needless(6), 2);
        due("null on one way, index -1", started(join(mayBeNull, s(SET, 2, -1), s(LOAD, 3, 0, 2))).needless(6), 4);
        due("null on one way, index within on the other", started(join(mayBeNull, s(SET, 2, 3), s(STORE, 0, 2, 2))).needless(6), 2);

        sentence("Which checks of a statement are needless: others have none");
        CheckSaver all = started(s(SET, 0, 3), s(NEW, 0, 0), s(ADD, 1, 0, -1), s(READ, 2), s(LET, 1, 0), s(IF, 1, 0, 0), s(WRITE, 1),
                s(ELSE), s(WHILE, 1, ZERO, 0), s(END), s(END), s(NULL, 2));
        for (int k = 0; k <= 11; k++) {
            due("needless(" + k + ")", all.needless(k), 0);
        }
    }

    private static void edges() {
        sentence("NEEDLESS: LOW if the least of the index is not below 0");
        int[][] of40 = {s(SET, 0, 40), s(NEW, 0, 0)};
        due("least 0", started(join(of40, s(SET, 1, 0), s(LOAD, 2, 0, 1))).needless(3), 7);
        due("least 1", started(join(of40, s(SET, 1, 1), s(STORE, 0, 1, 2))).needless(3), 7);
        due("least -1", started(join(of40, s(SET, 1, -1), s(LOAD, 2, 0, 1))).needless(3), 5);
        due("least none", started(join(of40, s(READ, 1), s(STORE, 0, 1, 2))).needless(3), 1);

        sentence("NEEDLESS: HIGH if its highest against the value is not above -1");
        due("highest -1", started(join(of40, s(SET, 1, 39), s(LOAD, 2, 0, 1))).needless(3), 7);
        due("highest -2", started(join(of40, s(SET, 1, 38), s(STORE, 0, 1, 2))).needless(3), 7);
        due("highest 0", started(join(of40, s(SET, 1, 40), s(LOAD, 2, 0, 1))).needless(3), 3);
        due("highest 1", started(join(of40, s(SET, 1, 41), s(STORE, 0, 1, 2))).needless(3), 3);

        sentence("NEEDLESS: HIGH by its highest against this value, not another");
        CheckSaver two = started(s(SET, 0, 40), s(NEW, 0, 0), s(SET, 1, 4), s(NEW, 1, 1), s(SET, 2, 20), s(LOAD, 3, 0, 2), s(LOAD, 3, 1, 2));
        due("of 40 places", two.needless(5), 7);
        due("of 4 places", two.needless(6), 3);

        sentence("NEEDLESS: NULL if the value is there");
        due("a new one", started(s(NEW, 0, 0), s(LENGTH, 1, 0)).needless(1), 1);
        due("null", started(s(NULL, 0), s(LENGTH, 1, 0)).needless(1), 0);
        due("null at first", started(s(LENGTH, 1, 3)).needless(0), 0);
        due("a let one", started(s(NEW, 0, 0), s(LET, 3, 0), s(LENGTH, 1, 3)).needless(2), 1);
        due("a let null", started(s(NEW, 0, 0), s(LET, 0, 3), s(LENGTH, 1, 0)).needless(2), 0);
    }

    private static void whichRun() {
        sentence("IllegalStateException when no run was begun (or it is over by put() or clear())");
        CheckSaver none = program(s(LOAD));
        for (int k : new int[] {LEAST_INT, -1, 0, 1, GREATEST_INT}) {
            dueThrow("needless(" + k + ") without a run", STATE, () -> none.needless(k));
        }
        due("begun", none.start(), 1);
        due("needless(0) of a run that is begun", none.needless(0), 2);
        due("it stops", none.run(1), 0);
        due("needless(0) of a run that has stopped", none.needless(0), 2);
        none.put(WRITE, 0, 0, 0);
        for (int k : new int[] {-1, 0, 1, 2}) {
            dueThrow("needless(" + k + ") behind put()", STATE, () -> none.needless(k));
        }
        none.start();
        due("needless(0) of a new run", none.needless(0), 2);
        none.clear();
        for (int k : new int[] {-1, 0, 1, 2}) {
            dueThrow("needless(" + k + ") behind clear()", STATE, () -> none.needless(k));
        }
        CheckSaver ended = ran(s(NEW, 0, 0), s(LENGTH, 1, 0));
        due("needless of a run at its end", ended.needless(1), 1);
        CheckSaver full = program(s(LOAD));
        tellTimes(full, 63, WRITE);
        full.start();
        due("needless(0) of 64 statements", full.needless(0), 2);
        full.put(WRITE, 0, 0, 0);
        dueThrow("needless(0) behind a put() that answered NONE", STATE, () -> full.needless(0));
    }

    private static void whichStatement() {
        sentence("else IndexOutOfBoundsException when there is no such statement");
        CheckSaver empty = new CheckSaver();
        empty.start();
        dueThrow("needless(0) without statements", INDEX, () -> empty.needless(0));
        dueThrow("needless(-1) without statements", INDEX, () -> empty.needless(-1));
        CheckSaver full = new CheckSaver();
        tellTimes(full, 64, LOAD, 1, 0, 0);
        full.start();
        for (int k = 0; k < 64; k++) {
            due("needless(" + k + ") of 64", full.needless(k), 2);
        }
        for (int k : new int[] {LEAST_INT, -1, 64, 65, GREATEST_INT}) {
            dueThrow("needless(" + k + ") of 64", INDEX, () -> full.needless(k));
        }
        CheckSaver two = ran(s(WRITE), s(WRITE));
        due("the last of two", two.needless(1), 0);
        dueThrow("one behind, at the end of the run", INDEX, () -> two.needless(2));
    }

    public static void main(String[] args) {
        sums();
        edges();
        whichRun();
        whichStatement();
        finish("Promise06NeedlessTest");
    }
}
