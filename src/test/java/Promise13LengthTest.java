/** Promise 13: length. */
public final class Promise13LengthTest extends Expect {
    public static void main(String[] args) {
        CheckSaver c = program(s(NEW, 0, 0), s(SET, 0, 40), s(NEW, 3, 0), s(LET, 1, 3), s(NULL, 3));
        due("without a run", c.length(0), NONE);
        c.start();
        due("null at first", c.length(0), NONE);
        c.run(4);
        due("no places", c.length(0), 0);
        due("40 places", c.length(3), 40);
        due("LET", c.length(1), 40);
        due("one that is null", c.length(2), NONE);
        due("length(-1)", c.length(-1), NONE);
        due("length(4)", c.length(4), NONE);
        due("length(greatest int)", c.length(Integer.MAX_VALUE), NONE);
        c.run(1);
        due("NULL", c.length(3), NONE);
        due("the other variable", c.length(1), 40);
        c.start();
        due("of a new run", c.length(1), NONE);
        c.run(2000);
        c.put(WRITE, 0, 0, 0);
        due("behind put()", c.length(1), NONE);
        finish("Promise13LengthTest");
    }
}
