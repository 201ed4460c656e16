/** Promise 4: give. */
public final class Promise04GiveTest extends Expect {
    public static void main(String[] args) {
        CheckSaver c = new CheckSaver();
        dueThrow("give(1000001)", ARGUMENT, () -> c.give(1000001));
        dueThrow("give(-1000001)", ARGUMENT, () -> c.give(-1000001));
        dueThrow("give(least int)", ARGUMENT, () -> c.give(Integer.MIN_VALUE));
        due("give(1000000)", c.give(1000000), 1);
        due("give(-1000000)", c.give(-1000000), 2);
        for (int i = 3; i <= 64; i++) {
            due("input " + i, c.give(i), i);
        }
        due("a 65th", c.give(0), NONE);
        dueThrow("a 65th that is not so", ARGUMENT, () -> c.give(1000001));

        tell(c, s(READ, 0), s(WRITE, 0), s(READ, 0), s(WRITE, 0), s(READ, 0), s(WRITE, 0));
        c.start();
        c.run(2000);
        due("the first input", c.output(2), 1000000);
        due("the second input", c.output(1), -1000000);
        due("the third input", c.output(0), 3);
        due("61 wait, and one more", c.give(77), 62);
        due("two more", c.give(78) + c.give(79), 63 + 64);
        due("one too many", c.give(80), NONE);
        for (int i = 0; i < 21; i++) {
            c.start();
            c.run(2000);
        }
        due("input 63, read behind all others", c.output(2), 64);
        due("what was given later comes behind", c.output(1), 77);
        due("and in its order", c.output(0), 78);
        due("one waits", c.give(5), 2);

        CheckSaver going = started(s(READ, 0), s(READ, 1), s(READ, 2));
        going.run(1);
        going.give(6);
        due("no run is over by give", going.run(2000), 2);
        due("0 when there is none", going.number(0), 0);
        due("one given while it runs", going.number(1), 6);
        due("and none again", going.number(2), 0);
        finish("Promise04GiveTest");
    }
}
