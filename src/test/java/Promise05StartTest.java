/** Promise 5: start. */
public final class Promise05StartTest extends Expect {
    public static void main(String[] args) {
        CheckSaver empty = new CheckSaver();
        due("start() without statements", empty.start(), 0);
        due("is at the end", empty.state(1), 1);
        due("behind no statement", empty.state(0), 0);
        due("with its numbers", empty.number(9), 0);

        CheckSaver open = program(s(IF));
        dueThrow("an if without END", STATE, () -> open.start());
        due("no run then", open.state(1), NONE);
        tell(open, s(WHILE), s(END));
        dueThrow("an if without END around a while", STATE, () -> open.start());
        tell(open, s(ELSE));
        dueThrow("an if with an ELSE alone", STATE, () -> open.start());
        tell(open, s(END));
        due("start() with every END", open.start(), 0);
        dueThrow("a while without END", STATE, () -> program(s(WHILE)).start());

        CheckSaver c = program(s(SET, 0, 3), s(NEW, 0, 0), s(SET, 1, 2), s(LOAD, 2, 0, 1), s(STORE, 0, 0, 1),
                s(LENGTH, 3, 1), s(READ, 4), s(WRITE, 4));
        due("start() counts what is needless", c.start(), 5);
        due("start() again", c.start(), 5);
        c.run(4);
        c.give(9);
        due("start() within a run", c.start(), 5);
        due("begins at statement 0", c.state(0), 0);
        for (int what = 1; what <= 6; what++) {
            due("a new run, state(" + what + ")", c.state(what), 0);
        }
        due("its numbers are 0", c.number(0), 0);
        due("its arrays are null", c.length(0), NONE);
        due("no run is over by itself: inputs stay", c.give(10), 2);

        CheckSaver reads = program(s(READ, 0), s(NEW, 0, 0), s(WRITE, 0));
        reads.give(4);
        reads.start();
        reads.run(2000);
        reads.start();
        reads.run(2000);
        due("an input that was read is gone", reads.output(0), 0);
        due("no outputs of the run before", reads.output(1), FREE);

        CheckSaver grows = program(s(LENGTH, 0, 0));
        due("null is never there", grows.start(), 0);
        grows.clear();
        tell(grows, s(NEW, 0, 0), s(LENGTH, 0, 0));
        due("what is known is worked out anew", grows.start(), 1);
        tell(grows, s(LENGTH, 1, 0));
        due("and with a statement more", grows.start(), 2);
        due("a check of statement 0", program(s(LOAD)).start(), 1);
        finish("Promise05StartTest");
    }
}
