/** The terms: joins before a while, and that what is known there and within is the strongest that fits together. */
public final class TermsWhilesTest extends Knowing {
    /** A while of which nothing is known; n8 is used up for it. */
    private static int[][] round(int[]... within) {
        return join(join(new int[][] {s(READ, 8), s(WHILE, 8, ZERO, 0)}, within), s(END));
    }

    private static void known() {
        sentence("known before a while only if no statement within has it as nx of 0 .. 4: else it is not known");
        int[][] made = {s(SET, 0, 6), s(NEW, 0, 0), s(SET, 1, 6)};
        int[][] forgets = {s(SET, 1, 6), s(ADD, 1, 1, 0), s(READ, 1), s(LENGTH, 1, 0), s(LOAD, 1, 0, 2)};
        for (int[] it : forgets) {
            due("behind a while with sort " + it[0], knownBehind(1, join(made, round(it))), FREE);
            due("as the first of three", knownBehind(1, join(made, round(it, s(WRITE), s(WRITE)))), FREE);
            due("as the last of three", knownBehind(1, join(made, round(s(WRITE), s(WRITE), it))), FREE);
            due("within an if within", knownBehind(1, join(made, round(s(IF), it, s(END)))), FREE);
            due("within a while within", knownBehind(1, join(made, round(s(WHILE), it, s(END)))), FREE);
            due("another number", knownBehind(0, join(made, round(it))), 6);
        }
        due("its least stays", leastBehind(1, join(made, round(s(SET, 1, 6)))), 6);
        int[][] keeps = {s(ADD, 2, 1, 0), s(LOAD, 2, 0, 1), s(STORE, 0, 1, 1), s(STORE, 1, 2, 1), s(NEW, 1, 1), s(NULL, 1), s(LET, 1, 0), s(WRITE, 1)};
        for (int[] it : keeps) {
            due("behind a while with sort " + it[0], knownBehind(1, join(made, round(it))), 6);
        }
        due("nx of an IF within", knownBehind(1, join(made, round(s(IF, 1, 2, 0), s(END)))), 6);
        due("nx of a WHILE within", knownBehind(1, join(made, round(s(WHILE, 1, 2, 0), s(END)))), 6);
        due("nx of the while itself", knownBehind(1, join(made, s(WHILE, 1, 2, 0), s(END))), 6);
        due("a SET right before it", knownBehind(1, join(made, join(new int[][] {s(SET, 1, 5)}, round(s(WRITE))))), 5);
        due("a SET right behind it", knownBehind(1, join(made, join(round(s(WRITE)), s(SET, 1, 5)))), 5);
        due("a SET right behind WHILE", knownBehind(1, join(made, s(WHILE, 2, ZERO, 1), s(SET, 1, 6), s(WRITE), s(END))), FREE);
        due("a SET right before END", knownBehind(1, join(made, s(WHILE, 2, ZERO, 1), s(WRITE), s(SET, 1, 6), s(END))), FREE);
        due("n0, read within", knownBehind(0, round(s(READ, 0))), FREE);
        CheckSaver within = started(join(made, s(WHILE, 2, ZERO, 1), s(READ, 9), s(NEW, 3, 9), s(WRITE), s(SET, 1, 6), s(READ, 9), s(NEW, 3, 9),
                s(WRITE), s(END)));
        due("within, before its SET", within.highest(6, 1, 3), FREE);
        due("within, behind its SET", within.highest(10, 1, 3), 6);
        due("known before the while: another", within.highest(6, 0, 3), 6);
    }

    private static void arrays() {
        sentence("before a while: an array variable that is rx of a statement 6 .. 8 within, whatever it has, has a new value, without a known length");
        int[][] made = {s(SET, 0, 6), s(NEW, 0, 0), s(LET, 1, 0), s(SET, 1, 5)};
        int[][] gives = {s(NEW, 0, 0), s(NULL, 0), s(LET, 0, 1), s(LET, 0, 0), s(LET, 0, 2)};
        for (int[] it : gives) {
            due("behind a while with sort " + it[0], knownLengthBehind(0, join(made, round(it))), FREE);
            due("as the first of three", knownLengthBehind(0, join(made, round(it, s(WRITE), s(WRITE)))), FREE);
            due("as the last of three", knownLengthBehind(0, join(made, round(s(WRITE), s(WRITE), it))), FREE);
            due("within an if within", knownLengthBehind(0, join(made, round(s(IF), it, s(END)))), FREE);
            due("the other variable keeps its value", knownLengthBehind(1, join(made, round(it))), 6);
            due("they are two then", highestBehind(2, 1, join(made, join(round(it), s(LENGTH, 2, 0)))), FREE);
        }
        int[][] keeps = {s(STORE, 0, 1, 1), s(LOAD, 0, 0, 1), s(LENGTH, 0, 0), s(LET, 2, 0), s(NEW, 3, 0), s(WRITE, 0)};
        for (int[] it : keeps) {
            due("behind a while with sort " + it[0], knownLengthBehind(0, join(made, round(it))), 6);
        }
        due("a NEW right before it", knownLengthBehind(0, join(made, join(new int[][] {s(NEW, 0, 1)}, round(s(WRITE))))), 5);
        due("a NEW right behind it", knownLengthBehind(0, join(made, join(round(s(WRITE)), s(NEW, 0, 1)))), 5);
        due("null by NULL has a new value, too", highestBehind(4, 2, join(made, join(round(s(NULL, 2)), s(SET, 4, 7)))), 7);
        due("null that stays has not", highestBehind(4, 2, join(made, join(round(s(NULL, 3)), s(SET, 4, 7)))), FREE);
        int[][] twins = join(made, join(round(s(LET, 0, 1), s(LET, 1, 0)), s(LENGTH, 2, 0)));
        due("each has a new value of its own", highestBehind(2, 1, twins), FREE);

        sentence("before a while: it is there, as with the one value on the one way, the other one on the other");
        dueThere("there on both ways", true, 0, join(made, round(s(NEW, 0, 1))));
        dueThere("null behind END", false, 0, join(made, round(s(NULL, 0))));
        dueThere("null on the way to it", false, 2, join(made, round(s(NEW, 2, 1))));
        dueThere("null, then there again", true, 0, join(made, round(s(NULL, 0), s(LET, 0, 1))));
        dueThere("null on one way within", false, 0, join(made, round(s(READ, 7), s(IF, 7, ZERO, 0), s(NULL, 0), s(END))));
        dueThere("null by LET", false, 0, join(made, round(s(LET, 0, 3))));
        CheckSaver goes = started(join(made, round(s(LENGTH, 2, 0), s(LENGTH, 2, 0), s(NULL, 0))));
        due("within, before the first LENGTH", goes.needless(6), 0);
        due("within, behind it", goes.needless(7), 1);

        sentence("before a while: numbers have their highest against it, as with the one value on the one way, the other one on the other");
        int[][] sizes = {s(SET, 0, 6), s(SET, 1, 9), s(SET, 2, 4), s(NEW, 0, 0)};
        due("4 against 6 and 9", highestBehind(2, 0, join(sizes, round(s(NEW, 0, 1)))), -2);
        due("9 against 6 and 9", highestBehind(1, 0, join(sizes, round(s(NEW, 0, 1)))), 3);
        due("9 against 6 and 4", highestBehind(1, 0, join(sizes, round(s(NEW, 0, 2)))), 5);
        due("9 against 6 and null", highestBehind(1, 0, join(sizes, round(s(NULL, 0)))), FREE);
        due("4 against null and 9", highestBehind(2, 3, join(sizes, round(s(NEW, 3, 1)))), FREE);
        due("within", started(join(sizes, round(s(WRITE), s(NEW, 0, 1), s(WRITE)))).highest(6, 1, 0), 3);
        due("within, behind NEW", started(join(sizes, round(s(WRITE), s(NEW, 0, 1), s(WRITE)))).highest(8, 1, 0), 0);
        due("before it", started(join(sizes, round(s(NEW, 0, 1)))).highest(5, 1, 0), 3);
        due("on the way to it", started(join(sizes, round(s(NEW, 0, 1)))).highest(4, 1, 0), 3);
        due("on the way to it, another", started(join(sizes, round(s(NEW, 0, 2)))).highest(4, 1, 0), 3);
    }

    private static void bounds() {
        sentence("before a while, of the way to it and that behind its END: the least is the lower one");
        due("5 and 3", leastBehind(1, join(new int[][] {s(SET, 1, 5)}, round(s(SET, 1, 3)))), 3);
        due("3 and 5", leastBehind(1, join(new int[][] {s(SET, 1, 3)}, round(s(SET, 1, 5)))), 3);
        due("5 and none", leastBehind(1, join(new int[][] {s(SET, 1, 5)}, round(s(READ, 1)))), FREE);
        due("none and 5", leastBehind(1, join(new int[][] {s(READ, 1)}, round(s(SET, 1, 5)))), FREE);
        CheckSaver before = started(s(SET, 1, 5), s(WHILE, 8, ZERO, 1), s(WRITE), s(SET, 1, 3), s(WRITE), s(END), s(WRITE));
        for (int k = 1; k < 7; k++) {
            due("before statement " + k, before.least(k, 1), 3);
        }
        CheckSaver rises = started(s(SET, 1, 3), s(WHILE, 8, ZERO, 1), s(WRITE), s(SET, 1, 5), s(WRITE), s(END), s(WRITE));
        due("within, before SET", rises.least(2, 1), 3);
        due("within, behind SET", rises.least(4, 1), 5);
        due("behind END it does not hold: what was before the while", rises.least(6, 1), 3);

        sentence("before a while: the highest is the greater one, none if either is none");
        due("5 and 3", highestBehind(1, 0, join(R0, join(new int[][] {s(SET, 1, 5)}, round(s(SET, 1, 3))))), 5);
        due("3 and 5", highestBehind(1, 0, join(R0, join(new int[][] {s(SET, 1, 3)}, round(s(SET, 1, 5))))), 5);
        due("5 and none", highestBehind(1, 0, join(R0, join(new int[][] {s(SET, 1, 5)}, round(s(READ, 1))))), FREE);
        due("none and 5", highestBehind(1, 0, join(R0, join(new int[][] {s(READ, 1)}, round(s(SET, 1, 5))))), FREE);

        sentence("before a while: a value is there if it is on both ways");
        int[][] maybe = {s(READ, 8), s(IF, 8, ZERO, 0), s(NEW, 0, 1), s(END)};
        dueThere("a check within is not enough", false, 0, join(maybe, round(s(LENGTH, 1, 0))));
        dueThere("a check on the way to it is", true, 0, join(maybe, join(new int[][] {s(LENGTH, 1, 0)}, round(s(WRITE)))));
        due("within, behind the check", started(join(maybe, round(s(LENGTH, 1, 0), s(LENGTH, 1, 0)))).needless(7), 1);
        due("within, the check itself", started(join(maybe, round(s(LENGTH, 1, 0), s(LENGTH, 1, 0)))).needless(6), 0);
    }

    private static void strongest() {
        sentence("leasts only fall, as far as they must");
        CheckSaver down = started(s(SET, 0, 100), s(WHILE, 1, 0, 0), s(ADD, 0, 0, -1), s(END), s(WRITE));
        due("to what the while holds it at", down.least(1, 0), 0);
        due("within ny has 1 more than nx", down.least(2, 0), 1);
        due("before END", down.least(3, 0), 0);
        due("behind it", down.least(4, 0), 0);
        CheckSaver ever = started(s(SET, 0, 100), s(WHILE, 1, ZERO, 5), s(ADD, 0, 0, -1), s(END), s(WRITE));
        due("for ever is none", ever.least(1, 0), FREE);
        due("within", ever.least(2, 0), FREE);
        due("behind", ever.least(4, 0), FREE);
        due("of n1 nothing fell", ever.least(4, 1), 5);
        CheckSaver held = started(s(SET, 0, 50), s(WHILE, 1, 0, 0), s(ADD, 0, 0, -1), s(IF, 0, ZERO, 3), s(SET, 0, 3), s(END), s(END), s(WRITE));
        due("to what an if within holds it at", held.least(1, 0), 3);
        due("within", held.least(2, 0), 3);
        due("behind the if", held.least(6, 0), 3);
        CheckSaver steps = started(s(SET, 0, 50), s(WHILE, 8, ZERO, 1), s(ADD, 0, 0, -7), s(IF, 0, ZERO, 3), s(SET, 0, 3), s(END), s(END), s(WRITE));
        due("by steps of 7", steps.least(1, 0), 3);
        due("by steps of 7, within", steps.least(3, 0), -4);

        sentence("highest ones only grow, as far as they must");
        CheckSaver up = started(s(READ, 9), s(NEW, 0, 9), s(LENGTH, 2, 0), s(SET, 0, -90), s(WHILE, 0, 2, 5), s(ADD, 0, 0, 3), s(END), s(WRITE));
        due("to what the while holds it at", up.highest(4, 0, 0), 7);
        due("within", up.highest(5, 0, 0), 4);
        due("before END", up.highest(6, 0, 0), 7);
        due("behind it", up.highest(7, 0, 0), 7);
        due("the least behind it", up.least(7, 0), 5);
        CheckSaver walk = started(s(SET, 0, 40), s(NEW, 0, 0), s(LENGTH, 1, 0), s(WHILE, 2, 1, 0), s(LOAD, 3, 0, 2), s(ADD, 2, 2, 1), s(END));
        due("a walk through all places", walk.needless(4), 7);
        CheckSaver beyond = started(s(SET, 0, 40), s(NEW, 0, 0), s(LENGTH, 1, 0), s(WHILE, 2, 1, 1), s(LOAD, 3, 0, 2), s(ADD, 2, 2, 1), s(END));
        due("a walk through one more", beyond.needless(4), 3);
        CheckSaver below = started(s(SET, 0, 40), s(NEW, 0, 0), s(LENGTH, 1, 0), s(SET, 2, -1), s(WHILE, 2, 1, 0), s(LOAD, 3, 0, 2), s(ADD, 2, 2, 1),
                s(END));
        due("a walk that begins at -1", below.needless(5), 5);

        sentence("what is there only goes, as far as it must");
        CheckSaver goes = started(s(READ, 0), s(NEW, 0, 0), s(NEW, 1, 0), s(WHILE, 1, ZERO, 3), s(LENGTH, 2, 0), s(LENGTH, 2, 1), s(ADD, 1, 1, 1),
                s(READ, 3), s(IF, 3, ZERO, 1), s(NULL, 0), s(END), s(END));
        due("what goes", goes.needless(4), 0);
        due("what need not", goes.needless(5), 1);
        CheckSaver alone = started(s(READ, 1), s(NEW, 0, 1), s(LET, 1, 0), s(READ, 0), s(READ, 1), s(READ, 2), s(READ, 3), s(READ, 4), s(READ, 5),
                s(READ, 6), s(READ, 7), s(READ, 8), s(READ, 9), s(WHILE, 9, ZERO, 3), s(WHILE, 9, ZERO, 3), s(LENGTH, 8, 0), s(READ, 8),
                s(END), s(READ, 9), s(LET, 0, 2), s(END));
        due("when nothing else moves", alone.needless(15), 0);
    }

    private static void ifsWithin() {
        sentence("What is known before a while and within: ifs within");
        CheckSaver c = started(s(SET, 0, 40), s(WHILE, 9, ZERO, 3), s(READ, 1), s(IF, 1, ZERO, 0), s(WRITE), s(ELSE), s(ADD, 2, 0, 0), s(END),
                s(WRITE), s(READ, 1), s(IF, 1, ZERO, 0), s(SET, 3, 1), s(END), s(ADD, 4, 0, 0), s(ADD, 0, 0, -1), s(IF, 0, ZERO, -5),
                s(SET, 0, -5), s(END), s(END), s(WRITE));
        due("the way where it holds, again", c.least(4, 0), -5);
        due("the way where it does not hold, again", c.least(6, 0), -5);
        due("the end of that way", c.least(7, 2), -5);
        due("behind its END", c.least(8, 2), -5);
        due("behind an if without ELSE", c.least(13, 0), -5);
        due("and on", c.least(14, 4), -5);
        due("behind the while", c.least(19, 2), -5);

        CheckSaver one = started(s(SET, 0, 40), s(WHILE, 9, ZERO, 3), s(READ, 1), s(IF, 1, ZERO, 0), s(SET, 2, 7), s(WRITE), s(ELSE), s(SET, 2, 9),
                s(END), s(IF, 1, ZERO, 0), s(ADD, 3, 0, 0), s(ELSE), s(SET, 0, 50), s(SET, 3, 60), s(END), s(ADD, 0, 3, -1), s(END), s(WRITE));
        due("what falls on the first way alone", one.least(14, 3), 60);
        due("falls behind the END, too", one.least(15, 3), FREE);
        CheckSaver first = started(s(SET, 0, 40), s(WHILE, 9, ZERO, 3), s(READ, 1), s(IF, 1, ZERO, 0), s(SET, 0, 7), s(WRITE), s(ELSE), s(WRITE),
                s(END), s(WRITE), s(ADD, 0, 0, -1), s(END));
        due("nothing moves at the end of the first way", first.least(6, 0), 7);
        due("but on the second", first.least(7, 0), FREE);
        due("and behind END", first.least(9, 0), FREE);
        CheckSaver without = started(s(SET, 0, 40), s(WHILE, 9, ZERO, 3), s(READ, 1), s(IF, 1, ZERO, 0), s(SET, 0, 7), s(WRITE), s(END), s(WRITE),
                s(ADD, 0, 0, -1), s(END));
        due("nothing moves before END", without.least(6, 0), 7);
        due("but behind it", without.least(7, 0), FREE);
        CheckSaver second = started(s(SET, 0, 40), s(WHILE, 9, ZERO, 3), s(READ, 1), s(IF, 1, ZERO, 0), s(WRITE), s(ELSE), s(SET, 0, 7), s(WRITE),
                s(END), s(WRITE), s(ADD, 0, 0, -1), s(END));
        due("nothing moves at the end of the second way", second.least(8, 0), 7);
        due("but behind END, by the first", second.least(9, 0), FREE);
    }

    private static void whilesWithin() {
        sentence("What is known before a while and within: whiles within");
        CheckSaver inner = started(s(SET, 0, 40), s(WHILE, 9, ZERO, 3), s(WHILE, 1, ZERO, 3), s(SET, 0, 7), s(WRITE), s(END), s(WRITE),
                s(ADD, 0, 0, -1), s(END));
        due("nothing moves before the END of a while", inner.least(5, 0), 7);
        due("but behind it, by the while", inner.least(6, 0), FREE);
        CheckSaver c = started(s(SET, 0, 20), s(WHILE, 1, ZERO, 9), s(SET, 2, 0), s(WHILE, 2, ZERO, 9), s(ADD, 2, 2, 1), s(ADD, 0, 3, 0), s(END),
                s(ADD, 3, 4, 0), s(ADD, 4, 5, -1), s(IF, 4, ZERO, -7), s(SET, 4, -7), s(END), s(ADD, 5, 4, 0), s(ADD, 1, 1, 1), s(END),
                s(WRITE));
        due("what falls within another while", c.least(3, 0), -7);
        due("comes to this one", c.least(1, 0), -7);
        due("and behind both", c.least(15, 0), -7);
        due("the inner one begins anew", c.least(3, 2), 0);
        due("its end", c.least(7, 2), 9);

        sentence("ifs and whiles lie in one another, at most 8: eight whiles");
        int[][] deep = new int[18][];
        deep[0] = s(SET, 0, 100);
        for (int i = 1; i <= 8; i++) {
            deep[i] = s(WHILE, 1, ZERO, 5);
            deep[9 + i] = s(END);
        }
        deep[9] = s(ADD, 0, 0, -1);
        CheckSaver eight = started(deep);
        due("outermost", eight.least(1, 0), FREE);
        due("innermost", eight.least(9, 0), FREE);
        due("n1 stays", eight.least(9, 1), 0);
    }

    /** The slowest that was found: ten numbers hand one least on, one step for each time round. */
    private static void slowest() {
        sentence("leasts only fall, as far as they must: from 4200 to none");
        CheckSaver c = program(s(SET, 0, 100));
        tellTimes(c, 41, ADD, 0, 0, 100);
        for (int n = 1; n < 10; n++) {
            tell(c, s(ADD, n, 0, 0));
        }
        tell(c, s(WHILE, 0, ZERO, 0));
        for (int n = 9; n > 0; n--) {
            tell(c, s(ADD, n, n - 1, 0));
        }
        tell(c, s(ADD, 0, 9, -1), s(END));
        due("64 statements, less one", c.start(), 0);
        due("before the while", c.least(50, 0), 4200);
        for (int n = 0; n < 10; n++) {
            due("all fall to none, n" + n, c.least(51, n), FREE);
        }
    }

    public static void main(String[] args) {
        known();
        arrays();
        bounds();
        strongest();
        ifsWithin();
        whilesWithin();
        slowest();
        finish("TermsWhilesTest");
    }
}
