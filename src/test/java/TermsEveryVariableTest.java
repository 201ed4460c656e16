/** The terms: each rule holds for n0 .. n9 and r0 .. r3 alike, the first and the last of them, too. */
public final class TermsEveryVariableTest extends Knowing {
    /** Three different numbers and two different arrays, beginning with x and r. */
    private static void statements(int x, int r) {
        int y = (x + 3) % 10;
        int z = (x + 7) % 10;
        int q = (r + 1) % 4;
        String what = "n" + x + ", r" + r;
        int[][] made = {s(READ, y), s(NEW, r, y), s(READ, z), s(SET, x, 5)};
        sentence("SET, for each number and array");
        due(what, highestBehind(x, r, made), 5);
        due(what, leastBehind(x, made), 5);
        sentence("ADD, for each number and array");
        int[][] sum = join(made, s(ADD, z, x, 2));
        due(what, highestBehind(z, r, sum), 7);
        due(what, leastBehind(z, sum), 7);
        sentence("READ, for each number and array");
        due(what, highestBehind(x, r, join(made, s(READ, x))), FREE);
        due(what, leastBehind(x, join(made, s(READ, x))), FREE);
        sentence("NEW, for each number and array");
        int[][] second = join(made, s(NEW, q, x));
        due(what, highestBehind(x, q, second), 0);
        due(what + ": the other array", highestBehind(x, r, second), 5);
        for (int n = 0; n < 10; n++) {
            due(what + ": of n" + n, highestBehind(n, q, second), n == x ? 0 : n == y || n == z ? FREE : -5);
        }
        due(what + ": its least", leastBehind(z, join(made, s(NEW, q, z))), 0);
        sentence("LET, for each number and array");
        int[][] let = join(second, s(LET, r, q));
        for (int n = 0; n < 10; n++) {
            due(what + ": of n" + n, highestBehind(n, r, let), n == x ? 0 : n == y || n == z ? FREE : -5);
        }
        dueThere(what, true, q, join(made, s(LET, q, r)));
        dueThere(what + ", of null", false, r, join(made, s(LET, r, q)));
        sentence("LENGTH, for each number and array");
        due(what, highestBehind(x, r, join(second, s(LENGTH, x, r))), 0);
        due(what + ": the other array", highestBehind(x, q, join(second, s(LENGTH, x, r))), FREE);
        due(what + ": its least", leastBehind(x, join(second, s(LENGTH, x, r))), 0);
        sentence("NULL, for each number and array");
        int[][] gone = join(second, s(LET, (r + 2) % 4, r), s(NULL, r), s(SET, x, 6));
        due(what, highestBehind(x, r, gone), FREE);
        due(what + ": the other array", highestBehind(x, q, gone), 1);
        due(what + ": the other one that has the value", highestBehind(x, (r + 2) % 4, gone), 6);
        dueThere(what, false, r, gone);
        dueThere(what + ", behind a check", false, r, join(gone, s(LENGTH, z, r)));
        due(what + ": LENGTH of null is against no other", highestBehind(z, (r + 2) % 4, join(gone, s(LENGTH, z, r))), FREE);
    }

    private static void indices(int x, int r) {
        int y = (x + 3) % 10;
        int z = (x + 7) % 10;
        int q = (r + 1) % 4;
        String what = "n" + x + ", r" + r;
        int[][] made = {s(SET, y, 30), s(NEW, q, y), s(READ, y), s(NEW, r, y)};
        int[][] both = {s(LOAD, z, r, x), s(STORE, r, x, z)};
        for (int[] it : both) {
            sentence("LOAD, STORE, for each number and array");
            int[][] unknown = join(made, s(READ, x), it);
            due(what + ": least", leastBehind(x, unknown), 0);
            due(what + ": highest", highestBehind(x, r, unknown), -1);
            due(what + ": the other array", highestBehind(x, q, unknown), FREE);
            int[][] known = join(made, s(SET, x, -3), it);
            due(what + ": a lower highest", highestBehind(x, r, known), -3);
            due(what + ": a lower highest, the other array", highestBehind(x, q, known), -33);
            due(what + ": a greater highest", highestBehind(x, r, join(made, s(SET, x, 3), it)), -1);
            due(what + ": a greater least", leastBehind(x, join(made, s(SET, x, 3), it)), 3);
            sentence("NEEDLESS, for each number and array");
            due(what + ": unknown", started(unknown).needless(5), 1);
            due(what + ": below 0", started(known).needless(5), 5);
            due(what + ": once more", started(join(unknown, it)).needless(6), 7);
        }
        sentence("LOAD: nothing is known of nx, for each number and array");
        due(what + ": least", leastBehind(x, join(made, s(LOAD, x, r, z))), FREE);
        due(what + ": highest", highestBehind(x, r, join(made, s(LOAD, x, r, z))), FREE);
    }

    private static void conditions(int x, int y, int r) {
        int a = (Math.max(x, y) + 1) % 10 == Math.min(x, y) ? (Math.max(x, y) + 2) % 10 : (Math.max(x, y) + 1) % 10;
        String what = "n" + x + ", n" + y + ", r" + r;
        int[][] made = {s(READ, a), s(NEW, r, a), s(READ, x), s(READ, y)};
        sentence("IF, WHILE, for each number and array");
        int[][] upper = join(made, s(SET, y, 10), s(IF, x, y, 3), s(WRITE), s(ELSE), s(WRITE), s(END));
        due(what + ": holds, nx", started(upper).highest(6, x, r), 12);
        due(what + ": does not hold, nx", started(upper).least(8, x), 13);
        int[][] lower = join(made, s(SET, x, 10), s(IF, x, y, 3), s(WRITE), s(ELSE), s(WRITE), s(END));
        due(what + ": holds, ny", started(lower).least(6, y), 8);
        due(what + ": does not hold, ny", started(lower).highest(8, y, r), 7);
        int[][] zero = join(made, s(WHILE, x, ZERO, 4), s(WRITE), s(END), s(WRITE));
        due(what + ": 0 in place, holds", started(zero).highest(5, x, r), 3);
        due(what + ": 0 in place, does not hold", started(zero).least(7, x), 4);
        due(what + ": ny stays", started(zero).least(7, y), FREE);
    }

    private static void joins(int x, int r) {
        int y = (x + 3) % 10;
        int z = (x + 7) % 10;
        int a = (x + 1) % 10;
        int q = (r + 1) % 4;
        String what = "n" + x + ", r" + r;
        int[][] made = {s(SET, y, 8), s(NEW, r, y), s(READ, y), s(SET, x, 5), s(READ, z)};
        sentence("JOINS behind an if, for each number and array");
        int[][] either = join(made, s(IF, z, ZERO, 0), s(SET, x, 3), s(NEW, q, x), s(ELSE), s(SET, x, 4), s(NEW, q, x), s(END));
        due(what + ": least", leastBehind(x, either), 3);
        due(what + ": highest", highestBehind(x, r, either), -4);
        due(what + ": not known", highestBehind(x, q, join(either, s(NEW, q, y))), FREE);
        due(what + ": a new value", highestBehind(x, q, join(either, s(SET, x, 9))), 9);
        due(what + ": the value that stays", highestBehind(x, r, join(either, s(SET, x, 9))), 1);
        dueThere(what, true, q, either);
        sentence("JOINS before a while, for each number and array");
        int[][] round = join(made, s(NEW, q, x), s(WHILE, z, ZERO, 0), s(SET, x, 3), s(NEW, q, x), s(END));
        due(what + ": least", leastBehind(x, round), 3);
        due(what + ": highest", highestBehind(x, r, round), -3);
        due(what + ": not known", highestBehind(x, q, join(round, s(NEW, q, y))), FREE);
        due(what + ": known, another", highestBehind(a, q, join(round, s(NEW, q, y))), 0);
        due(what + ": a new value", highestBehind(x, q, join(round, s(SET, x, 9))), 9);
        due(what + ": the value that stays", highestBehind(x, r, join(round, s(SET, x, 9))), 1);
        due(what + ": against the new one", highestBehind(a, q, round), -3);
        dueThere(what, true, q, round);
        int[][] goes = join(made, s(WHILE, z, ZERO, 0), s(NULL, r), s(END));
        dueThere(what + ", goes", false, r, goes);
        due(what + ": none against null", highestBehind(x, r, goes), FREE);
    }

    private static void theRun(int x, int r) {
        int y = (x + 3) % 10;
        int z = (x + 7) % 10;
        int q = (r + 1) % 4;
        String what = "n" + x + ", r" + r;
        sentence("each statement does what is said, for each number and array, and nothing else");
        CheckSaver c = started(s(SET, x, 3), s(NEW, r, x), s(ADD, y, x, -2), s(STORE, r, y, x), s(LET, q, r), s(NULL, r), s(LOAD, z, q, y),
                s(LENGTH, y, q), s(READ, x), s(WRITE, z));
        c.give(77);
        dueAll(what + ": SET", c, x, 3);
        dueAll(what + ": NEW", c, x, 3);
        due(what + ": NEW, length", c.length(r), 3);
        due(what + ": NEW, the other", c.length(q), NONE);
        dueAll(what + ": ADD", c, x, 3, y, 1);
        dueAll(what + ": STORE", c, x, 3, y, 1);
        due(what + ": STORE, before", c.place(r, 0), 0);
        due(what + ": STORE", c.place(r, 1), 3);
        due(what + ": STORE, behind", c.place(r, 2), 0);
        dueAll(what + ": LET", c, x, 3, y, 1);
        due(what + ": LET", c.place(q, 1), 3);
        due(what + ": LET, it stays", c.place(r, 1), 3);
        dueAll(what + ": NULL", c, x, 3, y, 1);
        due(what + ": NULL", c.length(r), NONE);
        due(what + ": NULL, the other", c.length(q), 3);
        dueAll(what + ": LOAD", c, x, 3, y, 1, z, 3);
        dueAll(what + ": LENGTH", c, x, 3, y, 3, z, 3);
        dueAll(what + ": READ", c, x, 77, y, 3, z, 3);
        due(what + ": nothing was written", c.state(5), 0);
        dueAll(what + ": WRITE", c, x, 77, y, 3, z, 3);
        due(what + ": WRITE", c.output(0), 3);
        due(what + ": at the end", c.state(1), 1);
        due(what + ": arrays made", c.state(6), 1);
    }

    /** One statement more is done: then these numbers are so, all others 0. */
    private static void dueAll(String what, CheckSaver c, int... numbers) {
        due(what + ": done", c.run(1), 1);
        int[] want = new int[10];
        for (int i = 0; i < numbers.length; i += 2) {
            want[numbers[i]] = numbers[i + 1];
        }
        for (int n = 0; n < 10; n++) {
            due(what + ": n" + n, c.number(n), want[n]);
        }
    }

    public static void main(String[] args) {
        for (int x = 0; x < 10; x++) {
            for (int r = 0; r < 4; r++) {
                statements(x, r);
                indices(x, r);
                joins(x, r);
                theRun(x, r);
                for (int y = 0; y < 10; y++) {
                    if (y != x) {
                        conditions(x, y, r);
                    }
                }
            }
        }
        finish("TermsEveryVariableTest");
    }
}
