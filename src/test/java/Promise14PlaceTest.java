/** Promise 14: place. */
public final class Promise14PlaceTest extends Expect {
    public static void main(String[] args) {
        CheckSaver c = program(s(SET, 0, 3), s(NEW, 0, 0), s(SET, 1, 2), s(STORE, 0, 1, 0), s(SET, 1, 0), s(SET, 2, -5),
                s(STORE, 0, 1, 2), s(LET, 3, 0), s(NEW, 0, 0));
        due("without a run", c.place(0, 0), FREE);
        c.start();
        due("of null", c.place(0, 0), FREE);
        c.run(2);
        for (int i = 0; i < 3; i++) {
            due("all 0: place(0, " + i + ")", c.place(0, i), 0);
        }
        due("place(0, 3)", c.place(0, 3), FREE);
        due("place(0, -1)", c.place(0, -1), FREE);
        due("place(0, least int)", c.place(0, Integer.MIN_VALUE), FREE);
        due("place(0, greatest int)", c.place(0, Integer.MAX_VALUE), FREE);
        due("place(-1, 0)", c.place(-1, 0), FREE);
        due("place(4, 0)", c.place(4, 0), FREE);
        c.run(2000);
        due("the first place", c.place(3, 0), -5);
        due("the middle one", c.place(3, 1), 0);
        due("the last one", c.place(3, 2), 3);
        due("a new array is all 0", c.place(0, 0), 0);

        c.start();
        c.run(2);
        due("nothing of the run before is left", c.place(0, 2), 0);
        c.clear();
        due("behind clear()", c.place(0, 0), FREE);

        CheckSaver longest = ran(s(SET, 0, 40), s(NEW, 0, 0), s(NEW, 1, 0), s(SET, 1, 39), s(STORE, 0, 1, 0));
        due("the last place of 40", longest.place(0, 39), 40);
        due("the array behind it is another", longest.place(1, 0), 0);
        due("there is no 41st", longest.place(0, 40), FREE);
        finish("Promise14PlaceTest");
    }
}
