/** Promise 13: length. */
public final class Promise13LengthTest extends Expect {
    public static void main(String[] args) {
        sentence("The length of array r of the run; NONE when it is null");
        CheckSaver c = program(s(NEW, 0, 0), s(SET, 0, 40), s(NEW, 3, 0), s(LET, 1, 3), s(NULL, 3), s(LENGTH, 1, 3));
        c.start();
        for (int r = 0; r < 4; r++) {
            due("null at first: length(" + r + ")", c.length(r), NONE);
        }
        c.run(4);
        due("no places", c.length(0), 0);
        due("40 places", c.length(3), 40);
        due("LET", c.length(1), 40);
        due("one that is null", c.length(2), NONE);

        sentence("NONE for another r");
        for (int r : new int[] {LEAST_INT, -2, -1, 4, 5, GREATEST_INT}) {
            due("length(" + r + ")", c.length(r), NONE);
        }

        sentence("The length of array r of the run: also when it has stopped, or is at the end");
        c.run(2000);
        due("NULL", c.length(3), NONE);
        due("the other variable, of a run that has stopped", c.length(1), 40);
        due("at the end", ran(s(SET, 0, 1), s(NEW, 2, 0)).length(2), 1);
        c.start();
        due("of a new run", c.length(1), NONE);

        sentence("NONE when no run was begun");
        CheckSaver none = program(s(SET, 0, 1), s(NEW, 2, 0));
        for (int r = -1; r <= 4; r++) {
            due("without a run", none.length(r), NONE);
        }
        c.run(4);
        c.put(WRITE, 0, 0, 0);
        due("behind put()", c.length(1), NONE);
        c.start();
        c.run(4);
        due("begun again", c.length(1), 40);
        c.clear();
        due("behind clear()", c.length(1), NONE);
        finish("Promise13LengthTest");
    }
}
