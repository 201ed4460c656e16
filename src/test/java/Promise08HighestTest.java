/** Promise 8: highest. */
public final class Promise08HighestTest extends Expect {
    public static void main(String[] args) {
        CheckSaver none = new CheckSaver();
        dueThrow("highest without a run", STATE, () -> none.highest(0, 10, 4));
        none.start();
        dueThrow("highest without statements", INDEX, () -> none.highest(0, 0, 0));

        CheckSaver c = started(s(READ, 0), s(NEW, 0, 0), s(SET, 1, 100), s(ADD, 1, 1, 100), s(ADD, 1, 1, 1),
                s(ADD, 1, 1, -100), s(SET, 2, 30), s(NEW, 1, 2), s(SET, 3, -100), s(ADD, 3, 3, -100), s(WRITE, 0));
        due("against null", c.highest(0, 0, 0), FREE);
        due("of the length of NEW", c.highest(2, 0, 0), 0);
        due("of a number known to be 0, no length known", c.highest(2, 5, 0), 0);
        due("SET, no length known", c.highest(3, 1, 0), 100);
        due("200 is one", c.highest(4, 1, 0), 200);
        due("above 200 is none", c.highest(5, 1, 0), FREE);
        due("and less than none is none", c.highest(6, 1, 0), FREE);
        due("against another null", c.highest(6, 1, 1), FREE);
        due("of a number known to be 0, length 30", c.highest(8, 5, 1), -30);
        due("of a number known to be 101, length 30", c.highest(8, 1, 1), 71);
        due("of a number of which nothing is known", c.highest(8, 0, 1), FREE);
        due("below -200 is one", c.highest(10, 3, 1), -230);
        due("it is another against another", c.highest(10, 3, 0), -200);
        dueThrow("highest(-1, 0, 0)", INDEX, () -> c.highest(-1, 0, 0));
        dueThrow("highest(11, 0, 0)", INDEX, () -> c.highest(11, 0, 0));
        dueThrow("highest(0, -1, 0)", INDEX, () -> c.highest(0, -1, 0));
        dueThrow("highest(0, 10, 0)", INDEX, () -> c.highest(0, 10, 0));
        dueThrow("highest(0, 0, -1)", INDEX, () -> c.highest(0, 0, -1));
        dueThrow("highest(0, 0, 4)", INDEX, () -> c.highest(0, 0, 4));
        c.clear();
        dueThrow("behind clear()", STATE, () -> c.highest(0, 0, 0));
        finish("Promise08HighestTest");
    }
}
