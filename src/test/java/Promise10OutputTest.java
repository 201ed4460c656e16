/** Promise 10: output. */
public final class Promise10OutputTest extends Expect {
    public static void main(String[] args) {
        due("without a run", program(s(WRITE)).output(0), FREE);
        CheckSaver c = started(s(WHILE, 0, 10, 20), s(WRITE, 0), s(ADD, 0, 0, 1), s(END));
        due("before an output", c.output(0), FREE);
        c.run(2);
        due("the first", c.output(0), 0);
        due("there is no second", c.output(1), FREE);
        c.run(2000);
        for (int k = 0; k < 16; k++) {
            due("output(" + k + ")", c.output(k), 19 - k);
        }
        due("output(16)", c.output(16), FREE);
        due("output(-1)", c.output(-1), FREE);
        due("output(least int)", c.output(Integer.MIN_VALUE), FREE);
        due("output(greatest int)", c.output(Integer.MAX_VALUE), FREE);
        due("all outputs", c.state(5), 20);

        CheckSaver stopped = ran(s(SET, 0, -7), s(WRITE, 0), s(LENGTH, 0, 0));
        due("of a run that has stopped", stopped.output(0), -7);
        stopped.start();
        due("of a new run", stopped.output(0), FREE);
        c.clear();
        due("behind clear()", c.output(0), FREE);
        finish("Promise10OutputTest");
    }
}
