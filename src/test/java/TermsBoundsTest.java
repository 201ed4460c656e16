/** The terms: a least below -200 and a highest above 200 are none, wherever they come up. */
public final class TermsBoundsTest extends Knowing {
    /** nx gets exactly c, by SET and ADD; c is -400 .. 400. */
    private static int[][] exactly(int x, int c) {
        int[][] it = {s(SET, x, 0)};
        int left = c;
        while (left != 0) {
            int step = Math.max(-100, Math.min(100, left));
            it = join(it, s(ADD, x, x, step));
            left -= step;
        }
        return it;
    }

    /** nx gets the least c (-200 .. 200) and no highest, and is not known. */
    private static int[][] leastOnly(int x, int c) {
        int half = c / 2;
        return join(bounded(x, half, NO), s(ADD, x, x, c - half));
    }

    private static int orNoLeast(int least) {
        return least < -200 ? FREE : least;
    }

    private static int orNoHighest(int highest) {
        return highest > 200 ? FREE : highest;
    }

    private static void leasts() {
        sentence("A least below -200 is none, wherever it comes up: ADD");
        for (int c : new int[] {-199, -200, -201, -202}) {
            due("a known number, " + c, leastBehind(1, exactly(1, c)), orNoLeast(c));
            due("a number that is not known, " + c, leastBehind(1, join(leastOnly(2, -150), s(ADD, 1, 2, c + 150))), orNoLeast(c));
        }
        due("none stays none", leastBehind(1, join(exactly(1, -201), s(ADD, 1, 1, 100))), FREE);
        due("though it is known", knownBehind(1, exactly(1, -201)), -201);

        for (int sort : new int[] {IF, WHILE}) {
            for (int by : new int[] {-199, -200, -201, -202}) {
                sentence("A least below -200 is none, wherever it comes up: of ny, where it holds");
                int[][] holds = join(leastOnly(1, by + 99), s(READ, 2), s(sort, 1, 2, 100));
                due("by " + by, started(join(holds, s(WRITE), s(END))).least(holds.length, 2), orNoLeast(by));
                sentence("A least below -200 is none, wherever it comes up: of nx, where it does not hold");
                int[][] not = join(leastOnly(2, by + 100), s(READ, 1), s(sort, 1, 2, -100), s(WRITE));
                int[][] other = sort == IF ? join(not, s(ELSE), s(WRITE), s(END)) : join(not, s(END), s(WRITE));
                due("by " + by, started(other).least(not.length + 1, 1), orNoLeast(by));
            }
        }
    }

    private static void highests() {
        sentence("A highest above 200 is none, wherever it comes up: ADD");
        for (int c : new int[] {199, 200, 201, 202}) {
            due("a known number, " + c, highestBehind(1, 0, join(R0, exactly(1, c))), orNoHighest(c));
            due("a number that is not known, " + c, highestBehind(1, 0, join(R0, join(bounded(2, NO, 99), s(ADD, 2, 2, 50), s(ADD, 1, 2, c - 149)))),
                    orNoHighest(c));
        }
        due("none stays none", highestBehind(1, 0, join(R0, join(exactly(1, 201), s(ADD, 1, 1, -100)))), FREE);

        sentence("A highest above 200 is none, wherever it comes up: NEW, c without a known length");
        for (int c : new int[] {199, 200, 201, 202}) {
            due("c " + c, highestBehind(1, 2, join(exactly(1, c), s(READ, 2), s(NEW, 2, 2))), orNoHighest(c));
        }
        sentence("A highest above 200 is none, wherever it comes up: NEW, c less the known length");
        for (int c : new int[] {229, 230, 231, 232}) {
            due("c " + c + " less 30", highestBehind(1, 2, join(exactly(1, c), s(SET, 2, 30), s(NEW, 2, 2))), orNoHighest(c - 30));
        }
        for (int c : new int[] {169, 170, 171, 172}) {
            due("c " + c + " less -30", highestBehind(1, 2, join(exactly(1, c), s(SET, 2, -30), s(NEW, 2, 2))), orNoHighest(c + 30));
        }
        sentence("A highest above 200 is none, wherever it comes up: SET, y less the known length");
        for (int length : new int[] {-99, -100, -101, -102}) {
            due("100 less " + length, highestBehind(1, 2, join(exactly(2, length), s(NEW, 2, 2), s(SET, 1, 100))), orNoHighest(100 - length));
        }
        highestsOfConditions();
    }

    private static void highestsOfConditions() {
        for (int sort : new int[] {IF, WHILE}) {
            for (int by : new int[] {199, 200, 201, 202}) {
                sentence("A highest above 200 is none, wherever it comes up: of nx, where it holds");
                int[][] holds = join(R0, join(exactly(2, by - 99), s(READ, 1), s(sort, 1, 2, 100)));
                due("by " + by, started(join(holds, s(WRITE), s(END))).highest(holds.length, 1, 0), orNoHighest(by));
                sentence("A highest above 200 is none, wherever it comes up: of ny, where it does not hold");
                int[][] not = join(R0, join(exactly(1, by - 100), s(READ, 2), s(sort, 1, 2, -100), s(WRITE)));
                int[][] other = sort == IF ? join(not, s(ELSE), s(WRITE), s(END)) : join(not, s(END), s(WRITE));
                due("by " + by, started(other).highest(not.length + 1, 2, 0), orNoHighest(by));
                sentence("A highest above 200 is none, wherever it comes up: for y 10");
                int[][] zero = join(exactly(3, -by + 99), s(NEW, 0, 3), s(READ, 1), s(sort, 1, ZERO, 100));
                due("by " + by, started(join(zero, s(WRITE), s(END))).highest(zero.length, 1, 0), orNoHighest(by));
            }
            for (int length : new int[] {-199, -200, -201, -202}) {
                sentence("A highest above 200 is none, wherever it comes up: that of SET 0 for y 10, and z more than none is none");
                int[][] zero = join(exactly(3, length), s(NEW, 0, 3), s(READ, 1), s(sort, 1, ZERO, -50));
                due("0 less " + length + ", and -51", started(join(zero, s(WRITE), s(END))).highest(zero.length, 1, 0),
                        length < -200 ? FREE : -length - 51);
            }
        }
    }

    private static void others() {
        sentence("A least below -200 is none: one above 200 is none of these");
        for (int c : new int[] {200, 201, 400}) {
            due("least " + c, leastBehind(1, exactly(1, c)), c);
        }
        due("by a condition", started(join(exactly(1, 150), s(READ, 2), s(IF, 1, 2, -100), s(WRITE), s(END))).least(5, 2), 251);
        sentence("A highest above 200 is none: one below -200 is none of these");
        for (int c : new int[] {-200, -201, -400}) {
            due("highest " + c, highestBehind(1, 0, join(R0, exactly(1, c))), c);
        }
        due("by a condition", started(join(R0, join(exactly(1, -150), s(READ, 2), s(IF, 2, 1, -100), s(WRITE), s(END)))).highest(8, 2, 0), -251);

        sentence("leasts only fall: one that falls below -200 is none");
        int[][] down = {s(SET, 1, 3), s(WHILE, 2, ZERO, 5), s(ADD, 1, 1, -1), s(END)};
        due("before the while", leastOf(down, 1), FREE);
        due("behind it", leastBehind(1, down), FREE);
        for (int step : new int[] {-50, -51}) {
            int[][] held = join(exactly(1, -150), s(WHILE, 2, ZERO, 5), s(ADD, 1, 1, step), s(IF, 1, ZERO, -100), s(ADD, 1, 1, -step), s(END), s(END));
            due("-150 and back by way of " + (-150 + step), leastBehind(1, held), step == -50 ? -150 : FREE);
        }
        sentence("highest ones only grow: one that grows above 200 is none");
        int[][] up = join(R0, s(SET, 1, 3), s(WHILE, 2, ZERO, 5), s(ADD, 1, 1, 1), s(END));
        due("before the while", started(up).highest(4, 1, 0), FREE);
        due("behind it", highestBehind(1, 0, up), FREE);
        due("its least stays", leastBehind(1, up), 3);
    }

    private static int leastOf(int[][] statements, int k) {
        return started(statements).least(k, 1);
    }

    public static void main(String[] args) {
        leasts();
        highests();
        others();
        finish("TermsBoundsTest");
    }
}
