/** Promise 7: least. */
public final class Promise07LeastTest extends Expect {
    public static void main(String[] args) {
        CheckSaver none = new CheckSaver();
        dueThrow("least without a run", STATE, () -> none.least(0, 10));
        none.start();
        dueThrow("least without statements", INDEX, () -> none.least(0, 0));

        CheckSaver c = started(s(SET, 0, -100), s(ADD, 0, 0, -100), s(ADD, 0, 0, -1), s(ADD, 0, 0, 100),
                s(READ, 1), s(SET, 2, 100), s(ADD, 2, 2, 100), s(ADD, 2, 2, 100), s(WRITE, 0));
        due("first", c.least(0, 9), 0);
        due("SET", c.least(1, 0), -100);
        due("-200 is one", c.least(2, 0), -200);
        due("below -200 is none", c.least(3, 0), FREE);
        due("and more than none is none", c.least(4, 0), FREE);
        due("READ", c.least(5, 1), FREE);
        due("above 200 is one", c.least(8, 2), 300);
        dueThrow("least(-1, 0)", INDEX, () -> c.least(-1, 0));
        dueThrow("least(9, 0)", INDEX, () -> c.least(9, 0));
        dueThrow("least(0, -1)", INDEX, () -> c.least(0, -1));
        dueThrow("least(0, 10)", INDEX, () -> c.least(0, 10));
        c.run(2000);
        due("at the end of the run", c.least(8, 2), 300);
        c.put(WRITE, 0, 0, 0);
        dueThrow("behind put()", STATE, () -> c.least(0, 0));
        finish("Promise07LeastTest");
    }
}
