/** Promise 1: a new object has no program, no inputs and no run. */
public final class Promise01NewObjectTest extends Expect {
    public static void main(String[] args) {
        CheckSaver c = new CheckSaver();
        for (int what = -1; what <= 7; what++) {
            due("new state(" + what + ")", c.state(what), NONE);
        }
        due("new number(0)", c.number(0), FREE);
        due("new length(0)", c.length(0), NONE);
        due("new place(0, 0)", c.place(0, 0), FREE);
        due("new output(0)", c.output(0), FREE);
        dueThrow("new run(1)", STATE, () -> c.run(1));
        dueThrow("new needless(0)", STATE, () -> c.needless(0));
        due("new clear()", c.clear(), 0);
        due("new give(7)", c.give(7), 1);
        due("new start()", c.start(), 0);

        CheckSaver a = new CheckSaver();
        CheckSaver b = new CheckSaver();
        a.put(WRITE, 0, 0, 0);
        a.give(5);
        a.start();
        due("another object has its own program", b.clear(), 0);
        due("another object has its own inputs", b.give(5), 1);
        due("another object has its own run", b.state(0), NONE);

        due("NONE", CheckSaver.NONE, -1);
        due("FREE", CheckSaver.FREE, 1000000000);
        finish("Promise01NewObjectTest");
    }
}
