/** Promise 4: give. */
public final class Promise04GiveTest extends Expect {
    private static void range() {
        sentence("An input, -1000000 .. 1000000; IllegalArgumentException when v is not so");
        CheckSaver c = program(s(READ, 0), s(READ, 1), s(READ, 2), s(READ, 3), s(READ, 4), s(READ, 5));
        for (int bad : new int[] {LEAST_INT, -1000002, -1000001, 1000001, 1000002, GREATEST_INT}) {
            dueThrow("give(" + bad + ")", ARGUMENT, () -> c.give(bad));
        }
        int[] good = {-1000000, -999999, 0, 999999, 1000000};
        for (int i = 0; i < good.length; i++) {
            due("give(" + good[i] + ")", c.give(good[i]), i + 1);
        }
        c.start();
        c.run(2000);
        for (int i = 0; i < good.length; i++) {
            due("it is read", c.number(i), good[i]);
        }
    }

    private static void full() {
        sentence("how many wait; NONE when there are 64");
        CheckSaver c = new CheckSaver();
        for (int i = 1; i <= 64; i++) {
            due("input " + i, c.give(i), i);
        }
        due("a 65th", c.give(65), NONE);
        due("a 66th", c.give(0), NONE);

        sentence("IllegalArgumentException, ahead of that");
        dueThrow("a 65th above 1000000", ARGUMENT, () -> c.give(1000001));
        dueThrow("a 65th below -1000000", ARGUMENT, () -> c.give(-1000001));

        sentence("NONE when there are 64: it does not wait");
        tell(c, s(WHILE, 0, ZERO, 64), s(READ, 0), s(WRITE, 0), s(END), s(READ, 1));
        c.start();
        due("64 are read", c.run(2000), 4 * 64 + 2);
        due("the last one", c.number(0), 64);
        due("none behind it", c.number(1), 0);
    }

    private static void inTheirOrder() {
        sentence("An input behind others");
        CheckSaver c = program(s(READ, 0), s(WRITE, 0), s(READ, 0), s(WRITE, 0), s(READ, 0), s(WRITE, 0));
        for (int i = 1; i <= 64; i++) {
            c.give(i);
        }
        c.start();
        c.run(2000);
        due("the first input", c.output(2), 1);
        due("the second input", c.output(1), 2);
        due("the third input", c.output(0), 3);
        due("61 wait, and one more", c.give(77), 62);
        due("two more", c.give(78) + c.give(79), 63 + 64);
        due("one too many", c.give(80), NONE);
        for (int i = 0; i < 21; i++) {
            c.start();
            c.run(2000);
        }
        due("input 64, read behind all before", c.output(2), 64);
        due("what was given later comes behind", c.output(1), 77);
        due("and in its order", c.output(0), 78);
        due("one waits, and one more", c.give(5), 2);
    }

    private static void whileItRuns() {
        sentence("READ nx = the next input, 0 when there is none");
        CheckSaver c = started(s(SET, 0, 9), s(READ, 0), s(READ, 1), s(SET, 2, 9), s(READ, 2));
        c.run(2);
        due("0 when there is none", c.number(0), 0);
        due("give within a run", c.give(6), 1);
        due("no run is over by give", c.run(2000), 3);
        due("one given while it runs", c.number(1), 6);
        due("and none again", c.number(2), 0);
        due("none waits", c.give(1), 1);
    }

    private static CheckSaver waiting(int many) {
        CheckSaver c = program(s(SET, 0, 3), s(NEW, 0, 0), s(READ, 1), s(STORE, 0, 1, 0), s(WRITE, 1), s(READ, 2));
        for (int i = 0; i < many; i++) {
            c.give(2);
        }
        c.start();
        c.run(1);
        return c;
    }

    private static void refused() {
        sentence("IllegalArgumentException when v is not so: nothing changes");
        dueUnchanged("give(1000001)", () -> waiting(2), 6, c -> dueThrow("it", ARGUMENT, () -> c.give(1000001)));
        dueUnchanged("give(-1000001)", () -> waiting(0), 6, c -> dueThrow("it", ARGUMENT, () -> c.give(-1000001)));
        sentence("NONE when there are 64: nothing changes");
        dueUnchanged("a 65th", () -> waiting(64), 6, c -> due("it", c.give(3), NONE));
    }

    public static void main(String[] args) {
        range();
        full();
        inTheirOrder();
        whileItRuns();
        refused();
        finish("Promise04GiveTest");
    }
}
