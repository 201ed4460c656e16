/** Promise 8: highest. */
public final class Promise08HighestTest extends Expect {
    private static void answers() {
        sentence("The highest of number n against the value that array r (0 .. 3) has before a statement; FREE for none");
        CheckSaver c = program(s(SET, 0, 5), s(NEW, 0, 0), s(SET, 0, 6), s(NEW, 1, 0), s(SET, 0, 7), s(NEW, 2, 0), s(SET, 0, 8), s(NEW, 3, 0));
        for (int n = 0; n < 10; n++) {
            tell(c, s(SET, n, n * 2));
        }
        tell(c, s(WRITE));
        c.start();
        for (int n = 0; n < 10; n++) {
            for (int r = 0; r < 4; r++) {
                due("against null: n" + n + ", r" + r, c.highest(0, n, r), FREE);
                due("against null: n" + n + ", r" + r, c.highest(2 * r + 1, n, r), FREE);
                due("n" + n + " against r" + r + " with " + (5 + r) + " places", c.highest(18, n, r), n * 2 - 5 - r);
            }
        }
        CheckSaver changing = started(s(SET, 0, 5), s(NEW, 0, 0), s(SET, 1, 9), s(NEW, 0, 1), s(NULL, 0), s(WRITE));
        due("of the value that it has then", changing.highest(3, 1, 0), 4);
        due("of the value that it has behind NEW", changing.highest(4, 1, 0), 0);
        due("of null behind NULL", changing.highest(5, 1, 0), FREE);
        changing.run(2000);
        due("at the end of the run", changing.highest(4, 1, 0), 0);
    }

    private static void bound() {
        sentence("A highest above 200 is none");
        CheckSaver c = started(s(READ, 0), s(NEW, 0, 0), s(SET, 1, 100), s(ADD, 1, 1, 99), s(ADD, 1, 1, 1), s(ADD, 1, 1, 1),
                s(ADD, 1, 1, -100), s(WRITE));
        due("199", c.highest(4, 1, 0), 199);
        due("200", c.highest(5, 1, 0), 200);
        due("201", c.highest(6, 1, 0), FREE);
        due("and less than none is none", c.highest(7, 1, 0), FREE);
        CheckSaver far = started(s(READ, 0), s(NEW, 0, 0), s(SET, 3, -100), s(ADD, 3, 3, -100), s(ADD, 3, 3, -1), s(ADD, 3, 3, -100), s(WRITE));
        due("-200 is one", far.highest(4, 3, 0), -200);
        due("below -200 is one", far.highest(5, 3, 0), -201);
        due("far below -200 is one", far.highest(6, 3, 0), -301);
    }

    private static void thrown() {
        sentence("highest throws as least: IllegalStateException when no run was begun (or it is over)");
        CheckSaver none = program(s(WRITE));
        int[][] asked = {{0, 0, 0}, {-1, 0, 0}, {1, 0, 0}, {0, -1, 0}, {0, 10, 0}, {0, 0, -1}, {0, 0, 4}, {5, 77, 8}};
        for (int[] a : asked) {
            dueThrow("without a run", STATE, () -> none.highest(a[0], a[1], a[2]));
        }
        none.start();
        due("begun", none.highest(0, 0, 0), FREE);
        none.put(WRITE, 0, 0, 0);
        for (int[] a : asked) {
            dueThrow("behind put()", STATE, () -> none.highest(a[0], a[1], a[2]));
        }
        none.start();
        due("begun again", none.highest(1, 9, 3), FREE);
        none.clear();
        for (int[] a : asked) {
            dueThrow("behind clear()", STATE, () -> none.highest(a[0], a[1], a[2]));
        }
        none.start();
        dueThrow("without statements", INDEX, () -> none.highest(0, 0, 0));

        sentence("highest throws as least, also for another r");
        CheckSaver c = started(s(NEW, 3, 0), s(WRITE));
        for (int bad : new int[] {LEAST_INT, -1, 2, 64, GREATEST_INT}) {
            dueThrow("highest(" + bad + ", 0, 0)", INDEX, () -> c.highest(bad, 0, 0));
        }
        for (int bad : new int[] {LEAST_INT, -1, 10, 11, GREATEST_INT}) {
            dueThrow("highest(1, " + bad + ", 0)", INDEX, () -> c.highest(1, bad, 0));
            dueThrow("highest(1, " + bad + ", 3)", INDEX, () -> c.highest(1, bad, 3));
        }
        for (int bad : new int[] {LEAST_INT, -1, 4, 5, GREATEST_INT}) {
            dueThrow("highest(1, 0, " + bad + ")", INDEX, () -> c.highest(1, 0, bad));
            dueThrow("highest(1, 9, " + bad + ")", INDEX, () -> c.highest(1, 9, bad));
        }
        due("highest(0, 0, 0)", c.highest(0, 0, 0), FREE);
        due("highest(1, 9, 3)", c.highest(1, 9, 3), 0);
    }

    public static void main(String[] args) {
        answers();
        bound();
        thrown();
        finish("Promise08HighestTest");
    }
}
