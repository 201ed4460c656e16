/** Promise 10: output. */
public final class Promise10OutputTest extends Expect {
    private static CheckSaver wrote(int many) {
        return ran(s(WHILE, 0, ZERO, many), s(WRITE, 0), s(ADD, 0, 0, 1), s(END));
    }

    private static void latest() {
        sentence("The k-th of the latest 16 outputs of the run (0 the latest); FREE when there is none");
        for (int many : new int[] {0, 1, 2, 15, 16, 17, 18, 31, 32, 33, 40}) {
            CheckSaver c = wrote(many);
            due("how many were written", c.state(5), many);
            for (int k = 0; k <= 17; k++) {
                due("output(" + k + ") of " + many, c.output(k), k < many && k < 16 ? many - 1 - k : FREE);
            }
            for (int k : new int[] {LEAST_INT, -17, -16, -2, -1, 32, GREATEST_INT}) {
                due("output(" + k + ") of " + many, c.output(k), FREE);
            }
        }
        CheckSaver c = started(s(WHILE, 0, ZERO, 20), s(WRITE, 0), s(ADD, 0, 0, 1), s(END));
        due("before an output", c.output(0), FREE);
        c.run(1);
        due("before WRITE", c.output(0), FREE);
        c.run(1);
        due("the first", c.output(0), 0);
        due("there is no second", c.output(1), FREE);
        due("the greatest", ranWith(s(1000000), s(READ, 0), s(WRITE, 0)).output(0), 1000000);
        due("the least", ranWith(s(-1000000), s(READ, 0), s(WRITE, 0)).output(0), -1000000);
    }

    private static void whichRun() {
        sentence("of the run; FREE when there is none");
        CheckSaver c = program(s(SET, 0, -7), s(WRITE, 0), s(LENGTH, 0, 0));
        due("without a run", c.output(0), FREE);
        c.start();
        c.run(2000);
        due("of a run that has stopped", c.output(0), -7);
        c.start();
        due("of a new run", c.output(0), FREE);
        c.run(2);
        due("its first", c.output(0), -7);
        due("none of the run before", c.output(1), FREE);
        c.put(WRITE, 0, 0, 0);
        due("behind put()", c.output(0), FREE);
        c.start();
        c.run(2);
        c.clear();
        due("behind clear()", c.output(0), FREE);

        CheckSaver twice = wrote(20);
        twice.start();
        twice.run(6);
        due("the second of a new run", twice.output(0), 1);
        due("the first of a new run", twice.output(1), 0);
        due("no third, though the run before had one", twice.output(2), FREE);
    }

    public static void main(String[] args) {
        latest();
        whichRun();
        finish("Promise10OutputTest");
    }
}
