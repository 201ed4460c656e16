/** Statements that bring a number into a certain state of knowledge, and a way to see whether it is known. */
class Knowing extends Expect {
    /** r0 gets an array without a known length; n9 is used up for it. */
    static final int[][] R0 = {s(READ, 9), s(NEW, 0, 9), s(READ, 9)};

    /** No least. */
    static final int NO = FREE;

    /**
     * Behind R0: nothing is known of nx but this least (-100 .. 100) and this highest
     * (-100 .. 99, not below the least) against r0, or none.
     */
    static int[][] bounded(int x, int least, int highest) {
        int[][] it = {s(READ, x)};
        if (highest != NO) {
            it = join(it, s(IF, x, ZERO, highest + 1), s(ELSE), s(SET, x, highest), s(END));
        }
        if (least != NO) {
            it = highest == NO ? join(it, s(WHILE, x, ZERO, least), s(READ, x), s(END))
                    : join(it, s(WHILE, x, ZERO, least), s(SET, x, least), s(END));
        }
        return it;
    }

    /** What n is known to be behind these statements (200 at most), FREE if it is not known; r3 and n9 are used up. */
    static int knownBehind(int n, int[]... statements) {
        CheckSaver c = started(join(statements, s(READ, 9), s(NEW, 3, 9), s(WRITE)));
        return c.highest(statements.length + 2, n, 3);
    }

    static int leastBehind(int n, int[]... statements) {
        return started(join(statements, s(WRITE))).least(statements.length, n);
    }

    static int highestBehind(int n, int r, int[]... statements) {
        return started(join(statements, s(WRITE))).highest(statements.length, n, r);
    }

    /** Whether the value that array r has behind these statements is there. */
    static boolean thereBehind(int r, int[]... statements) {
        return started(join(statements, s(LENGTH, 9, r))).needless(statements.length) == 1;
    }

    /** The known length of the value that array r has behind these statements, FREE if none; n9 is used up. */
    static int knownLengthBehind(int r, int[]... statements) {
        CheckSaver c = started(join(statements, s(SET, 9, 100), s(WRITE)));
        int highest = c.highest(statements.length + 1, 9, r);
        return highest == 100 ? FREE : 100 - highest;
    }

    static void dueThere(String what, boolean want, int r, int[]... statements) {
        due(what, thereBehind(r, statements) ? 1 : 0, want ? 1 : 0);
    }
}
