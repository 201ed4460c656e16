/** Promise 1: a new object has no program, no inputs and no run. */
public final class Promise01NewObjectTest extends Expect {
    private static void noRun() {
        sentence("No program: no run was begun");
        CheckSaver c = new CheckSaver();
        for (int what = -1; what <= 7; what++) {
            due("new state(" + what + ")", c.state(what), NONE);
        }
        for (int n = -1; n <= 10; n++) {
            due("new number(" + n + ")", c.number(n), FREE);
        }
        for (int r = -1; r <= 4; r++) {
            due("new length(" + r + ")", c.length(r), NONE);
            due("new place(" + r + ", 0)", c.place(r, 0), FREE);
        }
        due("new output(0)", c.output(0), FREE);
        dueThrow("new run(1)", STATE, () -> c.run(1));
        dueThrow("new needless(0)", STATE, () -> c.needless(0));
        dueThrow("new least(0, 0)", STATE, () -> c.least(0, 0));
        dueThrow("new highest(0, 0, 0)", STATE, () -> c.highest(0, 0, 0));
    }

    private static void noProgram() {
        sentence("No program");
        due("new clear()", new CheckSaver().clear(), 0);
        due("new start()", new CheckSaver().start(), 0);
        due("the first statement", new CheckSaver().put(WRITE, 0, 0, 0), 1);
        due("the first input", new CheckSaver().give(7), 1);
        dueThrow("an END of nothing", ARGUMENT, () -> new CheckSaver().put(END, 0, 0, 0));
        dueThrow("an ELSE of nothing", ARGUMENT, () -> new CheckSaver().put(ELSE, 0, 0, 0));
    }

    private static void objectsOfTheirOwn() {
        sentence("No program, whatever another object has");
        CheckSaver a = program(s(IF), s(WRITE, 0));
        a.give(5);
        CheckSaver b = new CheckSaver();
        dueThrow("nothing is open in it", ARGUMENT, () -> b.put(END, 0, 0, 0));
        due("its own program", b.clear(), 0);
        due("its own inputs", b.give(5), 1);
        tell(a, s(END), s(SET, 0, 3), s(NEW, 0, 0), s(WRITE, 0));
        a.start();
        a.run(2000);
        due("its own run", b.state(0), NONE);
        tell(b, s(WRITE, 0));
        b.start();
        due("its own numbers", b.number(0), 0);
        due("its own arrays", b.length(0), NONE);
        due("its own outputs", b.output(0), FREE);
        due("the other one stays", a.output(0), 3);
    }

    private static void constants() {
        sentence("FREE = 1000000000; NONE = -1");
        due("NONE", CheckSaver.NONE, -1);
        due("FREE", CheckSaver.FREE, 1000000000);
    }

    public static void main(String[] args) {
        noRun();
        noProgram();
        objectsOfTheirOwn();
        constants();
        finish("Promise01NewObjectTest");
    }
}
