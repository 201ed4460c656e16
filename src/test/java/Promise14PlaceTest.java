/** Promise 14: place. */
public final class Promise14PlaceTest extends Expect {
    private static void places() {
        sentence("Place i of array r of the run");
        CheckSaver c = program(s(SET, 0, 3), s(NEW, 0, 0), s(SET, 1, 2), s(STORE, 0, 1, 0), s(SET, 1, 0), s(SET, 2, -5),
                s(STORE, 0, 1, 2), s(LET, 3, 0), s(NEW, 0, 0), s(LENGTH, 1, 1));
        c.start();
        c.run(2);
        for (int i = 0; i < 3; i++) {
            due("all 0: place(0, " + i + ")", c.place(0, i), 0);
        }
        c.run(2000);
        due("the first place, of a run that has stopped", c.place(3, 0), -5);
        due("the middle one", c.place(3, 1), 0);
        due("the last one", c.place(3, 2), 3);
        due("a new array is all 0", c.place(0, 0), 0);
        c.start();
        c.run(2);
        due("nothing of the run before is left", c.place(0, 2), 0);

        CheckSaver longest = ran(s(SET, 0, 40), s(NEW, 0, 0), s(NEW, 1, 0), s(SET, 1, 39), s(STORE, 0, 1, 0));
        due("the last place of 40", longest.place(0, 39), 40);
        due("the one before", longest.place(0, 38), 0);
        due("the array behind it is another", longest.place(1, 0), 0);
        CheckSaver greatest = ranWith(s(1000000, -1000000), s(SET, 0, 2), s(NEW, 2, 0), s(READ, 1), s(READ, 2), s(SET, 3, 1),
                s(STORE, 2, 3, 1), s(SET, 3, 0), s(STORE, 2, 3, 2));
        due("the greatest", greatest.place(2, 1), 1000000);
        due("the least", greatest.place(2, 0), -1000000);
    }

    private static void none() {
        sentence("FREE when there is none: another i");
        CheckSaver c = ran(s(SET, 0, 3), s(NEW, 0, 0), s(SET, 1, 40), s(NEW, 1, 1), s(SET, 1, 0), s(NEW, 3, 1));
        for (int i : new int[] {LEAST_INT, -41, -40, -1, 3, 4, 39, 40, 41, GREATEST_INT}) {
            due("place(0, " + i + ") of 3", c.place(0, i), FREE);
            due("place(1, " + i + ") of 40", c.place(1, i), i >= 0 && i < 40 ? 0 : FREE);
            due("place(3, " + i + ") of none", c.place(3, i), FREE);
        }
        due("place(3, 0) of none", c.place(3, 0), FREE);

        sentence("FREE when there is none: null, or another r");
        for (int i : new int[] {-1, 0, 1}) {
            due("of null", c.place(2, i), FREE);
        }
        for (int r : new int[] {LEAST_INT, -2, -1, 4, 5, GREATEST_INT}) {
            due("place(" + r + ", 0)", c.place(r, 0), FREE);
            due("place(" + r + ", -1)", c.place(r, -1), FREE);
        }

        sentence("FREE when there is none: no run");
        due("without a run", program(s(WRITE)).place(0, 0), FREE);
        c.put(WRITE, 0, 0, 0);
        due("behind put()", c.place(0, 0), FREE);
        c.start();
        due("of a new run", c.place(0, 0), FREE);
        c.run(2);
        due("begun again", c.place(0, 0), 0);
        c.clear();
        due("behind clear()", c.place(0, 0), FREE);
    }

    public static void main(String[] args) {
        places();
        none();
        finish("Promise14PlaceTest");
    }
}
