/** Promise 7: least. */
public final class Promise07LeastTest extends Expect {
    private static void answers() {
        sentence("The least of number n (0 .. 9) before a statement; FREE for none");
        CheckSaver c = program();
        for (int n = 0; n < 10; n++) {
            tell(c, s(SET, n, n - 5));
        }
        tell(c, s(READ, 4), s(WRITE));
        c.start();
        for (int n = 0; n < 10; n++) {
            due("before the first, n" + n, c.least(0, n), 0);
            due("before its SET, n" + n, c.least(n, n), 0);
            due("behind its SET, n" + n, c.least(n + 1, n), n - 5);
            due("before the last, n" + n, c.least(11, n), n == 4 ? FREE : n - 5);
        }
        c.run(2000);
        due("at the end of the run", c.least(11, 9), 4);
        CheckSaver stopped = ran(s(SET, 1, 7), s(LENGTH, 0, 0), s(WRITE));
        due("behind where the run has stopped", stopped.least(2, 1), 7);
    }

    private static void bound() {
        sentence("A least below -200 is none");
        CheckSaver c = started(s(SET, 0, -100), s(ADD, 0, 0, -99), s(ADD, 0, 0, -1), s(ADD, 0, 0, -1), s(ADD, 0, 0, 100), s(WRITE));
        due("-199", c.least(2, 0), -199);
        due("-200", c.least(3, 0), -200);
        due("-201", c.least(4, 0), FREE);
        due("and more than none is none", c.least(5, 0), FREE);
        CheckSaver far = started(s(SET, 2, 100), s(ADD, 2, 2, 100), s(ADD, 2, 2, 1), s(ADD, 2, 2, 100), s(WRITE));
        due("200 is one", far.least(2, 2), 200);
        due("above 200 is one", far.least(3, 2), 201);
        due("far above 200 is one", far.least(4, 2), 301);
    }

    private static void thrown() {
        sentence("least throws as needless: IllegalStateException when no run was begun (or it is over)");
        CheckSaver none = program(s(WRITE));
        int[][] asked = {{0, 0}, {-1, 0}, {1, 0}, {0, -1}, {0, 10}, {5, 77}};
        for (int[] a : asked) {
            dueThrow("without a run", STATE, () -> none.least(a[0], a[1]));
        }
        none.start();
        due("begun", none.least(0, 0), 0);
        none.put(WRITE, 0, 0, 0);
        for (int[] a : asked) {
            dueThrow("behind put()", STATE, () -> none.least(a[0], a[1]));
        }
        none.start();
        due("begun again", none.least(1, 9), 0);
        none.clear();
        for (int[] a : asked) {
            dueThrow("behind clear()", STATE, () -> none.least(a[0], a[1]));
        }
        none.start();
        dueThrow("without statements", INDEX, () -> none.least(0, 0));

        sentence("least throws as needless, also for another n");
        CheckSaver c = started(s(WRITE), s(WRITE));
        for (int bad : new int[] {LEAST_INT, -1, 2, 64, GREATEST_INT}) {
            dueThrow("least(" + bad + ", 0)", INDEX, () -> c.least(bad, 0));
            dueThrow("least(" + bad + ", -1)", INDEX, () -> c.least(bad, -1));
        }
        for (int bad : new int[] {LEAST_INT, -1, 10, 11, GREATEST_INT}) {
            dueThrow("least(0, " + bad + ")", INDEX, () -> c.least(0, bad));
            dueThrow("least(1, " + bad + ")", INDEX, () -> c.least(1, bad));
        }
        due("least(0, 0)", c.least(0, 0), 0);
        due("least(1, 9)", c.least(1, 9), 0);
    }

    public static void main(String[] args) {
        answers();
        bound();
        thrown();
        finish("Promise07LeastTest");
    }
}
