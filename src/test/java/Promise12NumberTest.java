/** Promise 12: number. */
public final class Promise12NumberTest extends Expect {
    public static void main(String[] args) {
        CheckSaver c = program(s(SET, 0, -100), s(SET, 9, 100), s(ADD, 4, 9, -1), s(LENGTH, 4, 0));
        due("without a run", c.number(0), FREE);
        c.start();
        for (int n = 0; n < 10; n++) {
            due("first number(" + n + ")", c.number(n), 0);
        }
        c.run(3);
        due("SET", c.number(0), -100);
        due("SET n9", c.number(9), 100);
        due("ADD", c.number(4), 99);
        due("number(-1)", c.number(-1), FREE);
        due("number(10)", c.number(10), FREE);
        due("number(least int)", c.number(Integer.MIN_VALUE), FREE);
        c.run(1);
        due("of a run that has stopped", c.number(4), 99);
        c.start();
        due("of a new run", c.number(4), 0);
        c.put(WRITE, 0, 0, 0);
        due("behind put()", c.number(0), FREE);
        finish("Promise12NumberTest");
    }
}
