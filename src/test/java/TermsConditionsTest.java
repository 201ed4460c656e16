/** The terms: what is known where an IF or WHILE holds, and where it does not. */
public final class TermsConditionsTest extends Knowing {
    private static final int[] LEASTS = {NO, -60, 0, 30};
    private static final int[] HIGHESTS = {NO, 30, 61};
    private static final int[] MORE = {-100, -1, 0, 1, 100};

    private static int more(int bound, int z) {
        return bound == NO ? NO : bound + z;
    }

    private static int greaterLeast(int a, int b) {
        return a == NO || b == NO ? Math.min(a, b) : Math.max(a, b);
    }

    /** All bounds that nx (n1) and ny (n2) can have, against each other, with every z. */
    private static void everyRule(int sort) {
        for (int leastX : LEASTS) {
            for (int highX : HIGHESTS) {
                for (int leastY : LEASTS) {
                    for (int highY : HIGHESTS) {
                        int[][] made = join(R0, join(bounded(1, leastX, highX), bounded(2, leastY, highY)));
                        for (int z : MORE) {
                            dueRules(made, sort, new int[] {leastX, highX, leastY, highY}, z);
                        }
                    }
                }
            }
        }
    }

    private static void dueRules(int[][] made, int sort, int[] was, int z) {
        String what = (sort == IF ? "IF" : "WHILE") + " with z " + z + ", least and highest of nx " + was[0] + ", " + was[1] + ", of ny "
                + was[2] + ", " + was[3];
        int k = made.length;
        int[][] body = sort == IF ? new int[][] {s(WRITE), s(ELSE), s(WRITE), s(END)} : new int[][] {s(WRITE), s(END), s(WRITE)};
        CheckSaver c = started(join(made, join(new int[][] {s(sort, 1, 2, z)}, body)));
        due(what + ": before, nx", c.least(k, 1), was[0]);
        due(what + ": before, nx", c.highest(k, 1, 0), was[1]);
        due(what + ": before, ny", c.least(k, 2), was[2]);
        due(what + ": before, ny", c.highest(k, 2, 0), was[3]);
        int holds = k + 1;
        int not = k + 3;
        sentence("where it holds, nx has the lower one of its highest and z - 1 more than that of ny");
        due(what, c.highest(holds, 1, 0), Math.min(was[1], more(was[3], z - 1)));
        due(what + ": its least stays", c.least(holds, 1), was[0]);
        sentence("where it holds, ny has the greater one of its least and 1 - z more than that of nx");
        due(what, c.least(holds, 2), greaterLeast(was[2], more(was[0], 1 - z)));
        due(what + ": its highest stays", c.highest(holds, 2, 0), was[3]);
        sentence("where it does not hold, nx has the greater one of its least and z more than that of ny");
        due(what, c.least(not, 1), greaterLeast(was[0], more(was[2], z)));
        due(what + ": its highest stays", c.highest(not, 1, 0), was[1]);
        sentence("where it does not hold, ny the lower one of its highest and z less than that of nx");
        due(what, c.highest(not, 2, 0), Math.min(was[3], more(was[1], -z)));
        due(what + ": its least stays", c.least(not, 2), was[2]);
    }

    private static void zeroInPlace(int sort) {
        sentence("For y 10: least 0, highest those of SET 0, and nothing is changed of it");
        int[][] body = sort == IF ? new int[][] {s(WRITE), s(ELSE), s(WRITE), s(END)} : new int[][] {s(WRITE), s(END), s(WRITE)};
        for (int z : MORE) {
            int[][] made = {s(SET, 0, 40), s(NEW, 0, 0), s(READ, 0), s(NEW, 1, 0), s(READ, 1)};
            CheckSaver c = started(join(made, join(new int[][] {s(sort, 1, ZERO, z)}, body)));
            due("holds: against 40 places, z " + z, c.highest(6, 1, 0), z - 41);
            due("holds: against one without a known length, z " + z, c.highest(6, 1, 1), z - 1);
            due("holds: against null, z " + z, c.highest(6, 1, 2), FREE);
            due("holds: least, z " + z, c.least(6, 1), FREE);
            due("does not hold: least, z " + z, c.least(8, 1), z);
            due("does not hold: highest, z " + z, c.highest(8, 1, 1), FREE);
            for (int n = 2; n < 10; n++) {
                due("holds: of another nothing is changed", c.least(6, n), 0);
                due("does not hold: of another nothing is changed", c.highest(8, n, 1), 0);
            }
        }
        for (int was : new int[] {-100, -60, 0, 50}) {
            int[][] made = join(R0, bounded(1, was, 55));
            int k = made.length;
            CheckSaver c = started(join(made, join(new int[][] {s(sort, 1, ZERO, 20)}, body)));
            due("holds: the lower highest", c.highest(k + 1, 1, 0), 19);
            due("does not hold: the greater one of " + was + " and 20", c.least(k + 3, 1), Math.max(was, 20));
            CheckSaver d = started(join(made, join(new int[][] {s(sort, 1, ZERO, 57)}, body)));
            due("holds: the lower one of 55 and 56", d.highest(k + 1, 1, 0), 55);
        }
    }

    private static void sameNumber(int sort) {
        sentence("IF, WHILE with nx and ny the same (All by what was before)");
        int[][] body = sort == IF ? new int[][] {s(WRITE), s(ELSE), s(WRITE), s(END)} : new int[][] {s(WRITE), s(END), s(WRITE)};
        int[][] made = {s(READ, 9), s(NEW, 0, 9), s(SET, 1, 2)};
        for (int z : MORE) {
            CheckSaver c = started(join(made, join(new int[][] {s(sort, 1, 1, z)}, body)));
            due("holds: highest, z " + z, c.highest(4, 1, 0), Math.min(2, 2 + z - 1));
            due("holds: least, z " + z, c.least(4, 1), Math.max(2, 2 + 1 - z));
            due("does not hold: least, z " + z, c.least(6, 1), Math.max(2, 2 + z));
            due("does not hold: highest, z " + z, c.highest(6, 1, 0), Math.min(2, 2 - z));
        }
    }

    private static void againstEachValue() {
        sentence("IF, WHILE: its highest against each array value");
        int[][] made = {s(SET, 0, 5), s(NEW, 0, 0), s(SET, 0, 9), s(NEW, 1, 0), s(READ, 0), s(NEW, 2, 0), s(LET, 3, 0), s(SET, 2, 4), s(READ, 1)};
        CheckSaver c = started(join(made, s(IF, 1, 2, 3), s(WRITE), s(END), s(IF, 2, 1, 3), s(WRITE), s(ELSE), s(WRITE), s(END)));
        int[] of4 = {-1, -5, 4, -1};
        for (int r = 0; r < 4; r++) {
            due("holds: nx against r" + r, c.highest(10, 1, r), of4[r] + 2);
            due("does not hold: ny against r" + r, c.highest(15, 1, r), of4[r] - 3);
        }
        CheckSaver last = started(s(READ, 8), s(NEW, 3, 8), s(LENGTH, 8, 3), s(READ, 9), s(IF, 8, 9, 5), s(WRITE), s(ELSE), s(WRITE), s(END));
        due("n9 and r3, holds", last.least(5, 9), -4);
        due("n9 and r3, does not hold", last.highest(7, 9, 3), -5);

        sentence("IF, WHILE: whether a number is known, what is there and known lengths stay");
        int[][] known = {s(SET, 0, 5), s(NEW, 0, 0), s(READ, 1)};
        for (int sort : new int[] {IF, WHILE}) {
            due("n0 is known where it holds", started(join(known, s(sort, 0, 1, 0), s(READ, 9), s(NEW, 3, 9), s(WRITE), s(END))).highest(6, 0, 3), 5);
            due("n0 is known where it does not hold", knownBehind(0, join(known, s(sort, 0, 1, 0), s(END))), 5);
            due("n1 is not", knownBehind(1, join(known, s(sort, 0, 1, 0), s(END))), FREE);
            due("a known length", knownLengthBehind(0, join(known, s(sort, 0, 1, 0), s(END))), 5);
            dueThere("r0", true, 0, join(known, s(sort, 0, 1, 0), s(END)));
            dueThere("r1", false, 1, join(known, s(sort, 0, 1, 0), s(END)));
        }
    }

    private static void betweenTheWays() {
        sentence("BEFORE an ELSE or END is told what is behind the statement above it");
        int[][] made = {s(READ, 9), s(NEW, 0, 9), s(READ, 1)};
        CheckSaver c = started(join(made, s(IF, 1, ZERO, -2), s(WRITE), s(ELSE), s(WRITE), s(END), s(WRITE)));
        due("before ELSE: the first way", c.highest(5, 1, 0), -3);
        due("before ELSE: its least", c.least(5, 1), FREE);
        due("before END: the second way", c.least(7, 1), -2);
        due("before END: its highest", c.highest(7, 1, 0), FREE);
        CheckSaver one = started(join(made, s(IF, 1, ZERO, -2), s(WRITE), s(END), s(WRITE)));
        due("before END without ELSE: the way where it holds", one.highest(5, 1, 0), -3);
        CheckSaver empty = started(join(made, s(IF, 1, ZERO, -2), s(ELSE), s(END), s(WRITE)));
        due("before ELSE right behind IF", empty.highest(4, 1, 0), -3);
        due("before END right behind ELSE", empty.least(5, 1), -2);
        CheckSaver round = started(join(made, s(WHILE, 1, ZERO, -2), s(END), s(WRITE)));
        due("before END right behind WHILE", round.highest(4, 1, 0), -3);
        due("behind that END it does not hold", round.least(5, 1), -2);
    }

    private static void secondWay() {
        sentence("An IF that does not hold goes on behind its ELSE: there is what was before the IF");
        int[][] made = {s(SET, 0, 5), s(NEW, 0, 0), s(SET, 1, 8), s(READ, 2), s(IF, 2, ZERO, 0)};
        int[][] first = join(made, s(NEW, 0, 1), s(NULL, 1), s(SET, 1, 60), s(LET, 2, 0), s(ELSE));
        int at = first.length;
        CheckSaver c = started(join(first, s(SET, 3, 9), s(LENGTH, 4, 0), s(LENGTH, 4, 2), s(END), s(WRITE)));
        due("a least", c.least(at, 1), 8);
        due("a highest", c.highest(at, 1, 0), 3);
        due("a known length", c.highest(at + 1, 3, 0), 4);
        due("a value", c.highest(at + 2, 4, 2), FREE);
        due("what is there", c.needless(at + 1), 1);
        due("what is not", c.needless(at + 2), 0);
        CheckSaver known = started(join(first, s(READ, 9), s(NEW, 3, 9), s(WRITE), s(END)));
        due("a known number", known.highest(at + 2, 1, 3), 8);
        sentence("where a WHILE does not hold, it goes on behind its END: there is what was before the WHILE");
        int[][] round = {s(SET, 0, 5), s(NEW, 0, 0), s(SET, 1, 8), s(READ, 2), s(WHILE, 2, ZERO, 0), s(SET, 3, 9), s(NEW, 2, 1), s(END)};
        due("a known length", knownLengthBehind(0, round), 5);
        due("a known number", knownBehind(1, round), 8);
        due("a least: the lower one", leastBehind(3, round), 0);
    }

    public static void main(String[] args) {
        for (int sort : new int[] {IF, WHILE}) {
            everyRule(sort);
            zeroInPlace(sort);
            sameNumber(sort);
        }
        againstEachValue();
        betweenTheWays();
        secondWay();
        finish("TermsConditionsTest");
    }
}
