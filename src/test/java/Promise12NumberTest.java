/** Promise 12: number. */
public final class Promise12NumberTest extends Expect {
    public static void main(String[] args) {
        sentence("A number of the run: n0 .. n9");
        CheckSaver c = program(s(SET, 0, -100), s(SET, 9, 100), s(ADD, 4, 9, -1), s(LENGTH, 4, 0));
        c.start();
        for (int n = 0; n < 10; n++) {
            due("0 at first: number(" + n + ")", c.number(n), 0);
        }
        c.run(1);
        due("SET n0", c.number(0), -100);
        due("n9 before its SET", c.number(9), 0);
        c.run(2);
        due("SET n9", c.number(9), 100);
        due("ADD", c.number(4), 99);
        due("beside it", c.number(5), 0);

        sentence("FREE for another n");
        for (int n : new int[] {LEAST_INT, -2, -1, 10, 11, GREATEST_INT}) {
            due("number(" + n + ")", c.number(n), FREE);
        }

        sentence("A number of the run: also when it has stopped, or is at the end");
        c.run(1);
        due("of a run that has stopped", c.number(4), 99);
        due("at the end", ran(s(SET, 7, 8)).number(7), 8);
        c.start();
        due("of a new run", c.number(4), 0);
        due("the greatest", ranWith(s(1000000), s(READ, 3)).number(3), 1000000);
        due("the least", ranWith(s(-1000000), s(READ, 3)).number(3), -1000000);

        sentence("FREE when no run was begun");
        for (int n = -1; n <= 10; n++) {
            due("without a run", program(s(WRITE)).number(n), FREE);
        }
        c.put(WRITE, 0, 0, 0);
        due("behind put()", c.number(0), FREE);
        c.start();
        due("begun again", c.number(0), 0);
        c.clear();
        due("behind clear()", c.number(0), FREE);
        finish("Promise12NumberTest");
    }
}
