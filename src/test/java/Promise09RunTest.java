/** Promise 9: run. */
public final class Promise09RunTest extends Expect {
    private static void dueStop(String what, int done, int state, int[]... statements) {
        CheckSaver c = started(statements);
        due(what + ": how many", c.run(2000), done);
        due(what + ": state(1)", c.state(1), state);
        due(what + ": state(0)", c.state(0), done);
        dueThrow(what + ": run again", STATE, () -> c.run(2000));
        dueThrow(what + ": run again with a wrong n", STATE, () -> c.run(0));
    }

    private static void arguments() {
        CheckSaver none = program(s(WRITE));
        dueThrow("run without start", STATE, () -> none.run(1));
        dueThrow("run(0) without start", STATE, () -> none.run(0));
        CheckSaver c = started(s(WRITE), s(WRITE), s(WRITE));
        dueThrow("run(0)", ARGUMENT, () -> c.run(0));
        dueThrow("run(-1)", ARGUMENT, () -> c.run(-1));
        dueThrow("run(2001)", ARGUMENT, () -> c.run(2001));
        dueThrow("run(least int)", ARGUMENT, () -> c.run(Integer.MIN_VALUE));
        due("run(1)", c.run(1), 1);
        due("run(2)", c.run(2), 2);
        due("the last statement brings it to the end", c.state(1), 1);
        dueThrow("run at the end", STATE, () -> c.run(1));
        dueThrow("run(0) at the end", STATE, () -> c.run(0));
        CheckSaver ever = started(s(WHILE, 0, 0, 1), s(END));
        due("run(2000)", ever.run(2000), 2000);
        due("it goes", ever.state(1), 0);
    }

    private static void ways() {
        int[][] choice = {s(READ, 0), s(IF, 0, 10, 3), s(SET, 1, 1), s(ELSE), s(SET, 1, 2), s(END), s(WRITE, 1)};
        CheckSaver c = program(choice);
        c.give(2);
        c.start();
        due("READ, IF, SET, ELSE, WRITE", c.run(2000), 5);
        due("the way where it holds", c.output(0), 1);
        c.give(3);
        c.start();
        due("READ, IF, SET, END, WRITE", c.run(2000), 5);
        due("the way where it does not hold", c.output(0), 2);

        due("an if that does not hold", started(s(IF, 0, 10, 0), s(WRITE), s(END)).run(2000), 1);
        due("one that holds", started(s(IF, 0, 10, 1), s(WRITE), s(END)).run(2000), 3);
        due("a while that does not hold", started(s(WHILE, 0, 0, 0), s(WRITE), s(END)).run(2000), 1);
        due("a while three times", started(s(WHILE, 0, 1, 3), s(ADD, 0, 0, 1), s(END)).run(2000), 10);
        CheckSaver nested = ran(s(WHILE, 0, 10, 3), s(SET, 1, 0), s(WHILE, 1, 0, 1), s(WRITE, 1), s(ADD, 1, 1, 1),
                s(END), s(ADD, 0, 0, 1), s(END));
        due("whiles in one another", nested.state(5), 1 + 2 + 3);
        CheckSaver emptyWays = started(s(IF, 0, 10, 1), s(ELSE), s(END));
        due("IF, ELSE and behind END", emptyWays.run(2000), 2);
        due("at the end", emptyWays.state(0), 3);
    }

    private static void deeds() {
        CheckSaver c = ran(s(SET, 0, 4), s(NEW, 0, 0), s(LET, 1, 0), s(SET, 1, 3), s(SET, 2, 77), s(STORE, 1, 1, 2),
                s(LOAD, 3, 0, 1), s(LENGTH, 4, 1), s(NULL, 1), s(NEW, 2, 0), s(ADD, 5, 3, -7), s(WRITE, 5));
        due("a LET array is the same one", c.number(3), 77);
        due("LENGTH", c.number(4), 4);
        due("NULL leaves the other variable alone", c.length(0), 4);
        due("NULL", c.length(1), NONE);
        due("a NEW array is another one", c.place(2, 3), 0);
        due("ADD, WRITE", c.output(0), 70);
        CheckSaver own = ran(s(SET, 0, 1), s(NEW, 0, 0), s(SET, 0, 0), s(LOAD, 0, 0, 0), s(LET, 0, 0), s(LENGTH, 1, 0));
        due("LET to itself", own.number(1), 1);
    }

    private static void stops() {
        dueStop("LENGTH of null", 0, 2, s(LENGTH, 0, 0));
        dueStop("LOAD of null", 0, 2, s(LOAD, 0, 0, 0));
        dueStop("STORE to null, index below 0", 1, 2, s(SET, 0, -1), s(STORE, 0, 0, 0));
        dueStop("an index below 0", 2, 3, s(NEW, 0, 0), s(SET, 0, -1), s(STORE, 0, 0, 0));
        dueStop("an index beyond the end", 1, 4, s(NEW, 0, 0), s(LOAD, 0, 0, 0));
        dueStop("a length below 0", 1, 6, s(SET, 0, -1), s(NEW, 0, 0));
        dueStop("a length of 41", 1, 6, s(SET, 0, 41), s(NEW, 0, 0));
        due("a length of 40", ran(s(SET, 0, 40), s(NEW, 0, 0)).length(0), 40);
        due("a length of 0", ran(s(NEW, 0, 0)).length(0), 0);

        CheckSaver first = ran(s(SET, 0, 1), s(NEW, 0, 0), s(READ, 1), s(STORE, 0, 1, 0));
        due("index 0, with LOW and HIGH made", first.state(1), 1);
        due("it is stored", first.place(0, 0), 1);
        CheckSaver largest = ran(s(SET, 0, 40), s(SET, 1, 39), s(WHILE, 2, 10, 40), s(NEW, 0, 0), s(STORE, 0, 1, 0), s(STORE, 0, 3, 0),
                s(ADD, 2, 2, 1), s(END));
        due("40 arrays of 40 places", largest.state(1), 1);
        due("the last place of all", largest.place(0, 39), 40);
        largest.start();
        largest.run(4);
        due("all 0 in a new run: the first place", largest.place(0, 0), 0);
        due("all 0 in a new run: the last place", largest.place(0, 39), 0);
        CheckSaver many = started(s(WHILE, 0, 0, 1), s(NEW, 0, 1), s(END));
        due("40 arrays", many.run(2000), 121);
        due("not 41", many.state(1), 6);
        due("arrays made", many.state(6), 40);
    }

    private static CheckSaver withInput(int v, int[]... statements) {
        CheckSaver c = program(statements);
        c.give(v);
        c.start();
        c.run(2000);
        return c;
    }

    private static void sums() {
        due("a sum of 1000000", withInput(999999, s(READ, 0), s(ADD, 0, 0, 1)).number(0), 1000000);
        CheckSaver over = withInput(1000000, s(READ, 0), s(ADD, 1, 0, 1));
        due("a sum of 1000001", over.state(1), 5);
        due("it is not set", over.number(1), 0);
        due("a sum of -1000000", withInput(-999999, s(READ, 0), s(ADD, 0, 0, -1)).number(0), -1000000);
        due("a sum of -1000001", withInput(-1000000, s(READ, 0), s(ADD, 0, 0, -1)).state(1), 5);
        CheckSaver condition = withInput(1000000, s(READ, 0), s(IF, 1, 0, 1), s(END));
        due("a sum of an if", condition.state(1), 5);
        due("at the if", condition.state(0), 1);
        due("not done", condition.state(2), 1);
        due("a sum of a while", withInput(-1000000, s(READ, 0), s(WHILE, 1, 0, -1), s(END)).state(1), 5);
        due("0 in place of a number", withInput(1000000, s(READ, 0), s(IF, 0, 10, 100), s(END)).state(1), 1);
    }

    public static void main(String[] args) {
        arguments();
        ways();
        deeds();
        stops();
        sums();
        finish("Promise09RunTest");
    }
}
