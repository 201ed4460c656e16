/** Promise 3: clear. */
public final class Promise03ClearTest extends Expect {
    public static void main(String[] args) {
        CheckSaver c = program(s(SET, 0, 5), s(NEW, 0, 0), s(READ, 1), s(IF, 0, 0, 0), s(END));
        c.give(8);
        c.give(9);
        c.start();
        c.run(2);
        due("clear()", c.clear(), 5);
        due("no statements", c.clear(), 0);
        due("no run", c.state(1), NONE);
        due("no numbers", c.number(0), FREE);
        due("no arrays", c.length(0), NONE);
        dueThrow("nothing known", STATE, () -> c.least(0, 0));
        dueThrow("nothing to run", STATE, () -> c.run(1));
        due("no inputs", c.give(1), 1);

        tell(c, s(IF, 0, 0, 0), s(WHILE, 0, 0, 0));
        due("clear() with an open if and while", c.clear(), 2);
        dueThrow("nothing open", ARGUMENT, () -> c.put(END, 0, 0, 0));
        due("nothing open at start()", c.start(), 0);

        tell(c, s(READ, 3), s(WRITE, 3));
        c.start();
        c.run(2000);
        due("a cleared input is not read", c.output(0), 0);

        CheckSaver used = started(s(IF, 0, 0, 0), s(ELSE), s(END));
        used.clear();
        tell(used, s(IF, 0, 0, 0), s(WRITE), s(END));
        due("an ELSE of the program before is none", used.start(), 0);
        due("so its if goes behind its END", used.run(2000), 1);
        finish("Promise03ClearTest");
    }
}
