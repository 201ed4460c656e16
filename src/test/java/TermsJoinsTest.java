/** The terms: joins behind the END of an if. */
public final class TermsJoinsTest extends Knowing {
    /** An if of which nothing is known; n8 is used up for it. */
    private static int[][] either(int[][] first, int[][] second) {
        int[][] it = join(new int[][] {s(READ, 8), s(IF, 8, ZERO, 0)}, first);
        return second == null ? join(it, s(END)) : join(join(join(it, s(ELSE)), second), s(END));
    }

    private static int[][] one(int... statement) {
        return new int[][] {statement};
    }

    private static void leasts() {
        sentence("The least is the lower one, none if either is none");
        due("-3 and 5", leastBehind(1, either(one(SET, 1, -3), one(SET, 1, 5))), -3);
        due("5 and -3", leastBehind(1, either(one(SET, 1, 5), one(SET, 1, -3))), -3);
        due("4 and 4", leastBehind(1, either(one(SET, 1, 4), one(SET, 1, 4))), 4);
        due("none and 5", leastBehind(1, either(one(READ, 1), one(SET, 1, 5))), FREE);
        due("5 and none", leastBehind(1, either(one(SET, 1, 5), one(READ, 1))), FREE);
        due("none and none", leastBehind(1, either(one(READ, 1), one(READ, 1))), FREE);
        due("5, else 0 as before", leastBehind(1, either(one(SET, 1, 5), null)), 0);
        due("-5, else 0 as before", leastBehind(1, either(one(SET, 1, -5), null)), -5);
        due("n0", leastBehind(0, either(one(SET, 0, -5), one(SET, 0, -4))), -5);
        due("n9", leastBehind(9, either(one(SET, 9, -4), one(SET, 9, -5))), -5);
    }

    private static void highests() {
        sentence("the highest is the greater one, none if either is none");
        due("-3 and 5", highestBehind(1, 0, join(R0, either(one(SET, 1, -3), one(SET, 1, 5)))), 5);
        due("5 and -3", highestBehind(1, 0, join(R0, either(one(SET, 1, 5), one(SET, 1, -3)))), 5);
        due("none and 5", highestBehind(1, 0, join(R0, either(one(READ, 1), one(SET, 1, 5)))), FREE);
        due("5 and none", highestBehind(1, 0, join(R0, either(one(SET, 1, 5), one(READ, 1)))), FREE);
        due("-5, else 0 as before", highestBehind(1, 0, join(R0, either(one(SET, 1, -5), null))), 0);
        due("5, else 0 as before", highestBehind(1, 0, join(R0, either(one(SET, 1, 5), null))), 5);
        due("against a known length", highestBehind(1, 3, join(new int[][] {s(SET, 2, 9), s(NEW, 3, 2)}, either(one(SET, 1, 5), one(SET, 1, 7)))), -2);
        due("against null", highestBehind(1, 3, either(one(SET, 1, 5), one(SET, 1, 7))), FREE);

        sentence("without an ELSE one is the way where it does not hold");
        int[][] alone = join(R0, s(READ, 1), s(IF, 1, ZERO, 30), s(SET, 1, 50), s(END));
        due("least: 50 and 30", leastBehind(1, alone), 30);
        due("highest: 50 and none", highestBehind(1, 0, alone), FREE);
        int[][] up = join(R0, s(SET, 1, 20), s(READ, 2), s(IF, 1, 2, 0), s(SET, 2, 3), s(END));
        due("highest of ny: 3 and 20", highestBehind(2, 0, up), 20);
        sentence("behind the END of an if, of both its ways");
        int[][] both = join(R0, s(READ, 1), s(IF, 1, ZERO, 30), s(ELSE), s(SET, 1, 40), s(END));
        due("highest: 29 and 40", highestBehind(1, 0, both), 40);
        due("least: none and 40", leastBehind(1, both), FREE);
        int[][] empty = join(R0, s(READ, 1), s(IF, 1, ZERO, 30), s(ELSE), s(END));
        due("highest: 29 and none", highestBehind(1, 0, empty), FREE);
        due("least: none and 30", leastBehind(1, empty), FREE);
    }

    private static void known() {
        sentence("A number is known to be c if it is on both ways, the same c");
        due("4 and 4", knownBehind(1, either(one(SET, 1, 4), one(SET, 1, 4))), 4);
        due("4 by SET and by ADD", knownBehind(1, either(one(SET, 1, 4), one(ADD, 1, 2, 4))), 4);
        due("4 and 5", knownBehind(1, either(one(SET, 1, 4), one(SET, 1, 5))), FREE);
        due("5 and 4", knownBehind(1, either(one(SET, 1, 5), one(SET, 1, 4))), FREE);
        due("4 and not known", knownBehind(1, either(one(SET, 1, 4), one(READ, 1))), FREE);
        due("not known and 4", knownBehind(1, either(one(READ, 1), one(SET, 1, 4))), FREE);
        due("not known on both", knownBehind(1, either(one(READ, 1), one(READ, 1))), FREE);
        due("0 on one, else 0 as before", knownBehind(1, either(one(SET, 1, 0), null)), 0);
        due("1 on one, else 0 as before", knownBehind(1, either(one(SET, 1, 1), null)), FREE);
        due("not changed at all", knownBehind(1, join(one(SET, 1, 6), either(one(WRITE), one(WRITE)))), 6);
        due("n0", knownBehind(0, either(one(SET, 0, 4), one(SET, 0, 5))), FREE);
        due("n0, the same", knownBehind(0, either(one(SET, 0, 4), one(SET, 0, 4))), 4);
        due("n9", highestBehind(9, 3, join(either(one(SET, 9, 4), one(SET, 9, 5)), s(READ, 7), s(NEW, 3, 7))), FREE);
    }

    private static void there() {
        sentence("A value is there if it is on both ways");
        int[][] maybe = join(either(one(NEW, 0, 1), null), s(LET, 2, 0));
        dueThere("not there before", false, 0, maybe);
        dueThere("by a check on both ways", true, 0, join(maybe, either(one(LENGTH, 1, 0), one(LENGTH, 1, 0))));
        dueThere("by a check on the first way", false, 0, join(maybe, either(one(LENGTH, 1, 0), one(WRITE))));
        dueThere("by a check on the second way", false, 0, join(maybe, either(one(WRITE), one(LENGTH, 1, 0))));
        dueThere("by a check on the only way", false, 0, join(maybe, either(one(LENGTH, 1, 0), null)));
        dueThere("by another name on one way", true, 0, join(maybe, either(one(LENGTH, 1, 0), one(LENGTH, 1, 2))));
        dueThere("there before", true, 1, join(one(NEW, 1, 1), either(one(WRITE), null)));
        dueThere("null on both", false, 1, either(one(NULL, 1), one(NULL, 1)));
    }

    private static void values() {
        sentence("An array variable that has two different values on both ways has a new value, without a known length");
        int[][] two = {s(SET, 1, 6), s(SET, 2, 9), s(SET, 3, 4)};
        int[][] made = join(two, either(one(NEW, 1, 1), one(NEW, 1, 2)));
        due("no known length of 6 and 9", knownLengthBehind(1, made), FREE);
        due("no known length of 6 and 6", knownLengthBehind(1, join(two, either(one(NEW, 1, 1), one(NEW, 1, 1)))), FREE);
        int[][] before = join(two, s(NEW, 1, 1));
        due("NEW on one way alone", knownLengthBehind(1, join(before, either(one(NEW, 1, 1), null))), FREE);
        due("LET to another on one way", knownLengthBehind(1, join(before, join(one(NEW, 2, 1), either(one(LET, 1, 2), null)))), FREE);
        due("the same value on both ways", knownLengthBehind(1, join(before, either(one(LET, 2, 1), null))), 6);
        due("the same value by LET", knownLengthBehind(2, join(before, either(one(LET, 2, 1), one(LET, 2, 1)))), 6);
        due("no other variable gets one", knownLengthBehind(1, join(before, either(one(NEW, 2, 1), one(NEW, 2, 2)))), 6);
        due("LENGTH of it, against it", highestBehind(4, 1, join(made, s(LENGTH, 4, 1))), 0);
        int[][] twins = join(two, either(new int[][] {s(NEW, 0, 1), s(LET, 1, 0)}, new int[][] {s(NEW, 0, 1), s(LET, 1, 0)}));
        due("each variable has a new value of its own", highestBehind(4, 1, join(twins, s(LENGTH, 4, 0))), FREE);

        sentence("a new value: it is there as with the one value on the one way, the other one on the other");
        dueThere("both are there", true, 1, made);
        dueThere("one is null", false, 1, join(two, either(one(NEW, 1, 1), null)));
        dueThere("the other is null", false, 1, join(before, either(one(WRITE), one(NULL, 1))));

        sentence("a new value: numbers have their highest against it, as with the one value on the one way, the other one on the other");
        due("4 against 6 and 9", highestBehind(3, 1, made), -2);
        due("6 against 6 and 9", highestBehind(1, 1, made), 0);
        due("9 against 6 and 9", highestBehind(2, 1, made), 3);
        due("0 against 6 and 9", highestBehind(0, 1, made), -6);
        int[][] turned = join(two, either(one(NEW, 1, 2), one(NEW, 1, 1)));
        due("9 against 9 and 6", highestBehind(2, 1, turned), 3);
        due("one is null", highestBehind(3, 1, join(two, either(one(NEW, 1, 1), null))), FREE);
        due("a number not known on one way", highestBehind(4, 1, join(two, either(one(NEW, 1, 1), new int[][] {s(READ, 4), s(NEW, 1, 2)}))), FREE);
        int[][] kept = join(before, s(LET, 2, 1));
        due("the old value by another name stays", highestBehind(3, 2, join(kept, either(one(NEW, 1, 2), null))), -2);

        sentence("a new value is no more null: SET gives a highest against it");
        int[][] half = either(one(NEW, 1, 1), null);
        due("SET 7", highestBehind(4, 1, join(half, s(SET, 4, 7))), 7);
        due("null on both ways stays null", highestBehind(4, 1, join(either(one(NULL, 1), null), s(SET, 4, 7))), FREE);
    }

    private static void inOneAnother() {
        sentence("ifs and whiles lie in one another, at most 8: joins");
        int[][] inner = either(one(SET, 1, 5), one(SET, 1, 7));
        int[][] outer = either(inner, one(SET, 1, 9));
        due("the lower of 5, 7 and 9", leastBehind(1, outer), 5);
        due("the greater of 5, 7 and 9", highestBehind(1, 0, join(R0, outer)), 9);
        int[][] second = either(one(SET, 1, 9), inner);
        due("the lower of 9, 5 and 7", leastBehind(1, second), 5);
        due("the greater of 9, 5 and 7", highestBehind(1, 0, join(R0, second)), 9);
        int[][] deep = one(SET, 1, -8);
        for (int i = 7; i >= 0; i--) {
            deep = join(new int[][] {s(READ, 8), s(IF, 8, ZERO, 0)}, join(deep, s(ELSE), s(SET, 1, -i), s(END)));
        }
        due("eight in one another: the lower one", leastBehind(1, deep), -8);
        due("eight in one another: the greater one", highestBehind(1, 0, join(R0, deep)), 0);
        due("between them", started(join(R0, deep)).highest(3 + 4, 1, 0), 0);
        int[][] arrays = either(either(one(NEW, 1, 1), one(NEW, 1, 2)), one(NEW, 1, 3));
        int[][] sizes = {s(SET, 1, 6), s(SET, 2, 9), s(SET, 3, 4), s(SET, 4, 5)};
        due("5 against 6, 9 and 4", highestBehind(4, 1, join(sizes, arrays)), 1);
        dueThere("all are there", true, 1, join(sizes, arrays));
    }

    /** Values by an if, by a while and by NEW, at every place that a program has for them. */
    private static void valuesOfTheirOwn() {
        sentence("has a new value: no other variable has it, and it is not null");
        for (int ahead = 0; ahead + 9 <= 64; ahead++) {
            for (int first = 0; first < 4; first++) {
                for (int more = 1; more < 4; more++) {
                    dueThreeValues(ahead, first, (first + more) % 4, (first + (more == 1 ? 2 : 1)) % 4);
                }
            }
        }
    }

    private static void firstAndLast() {
        sentence("has a new value: no other variable has it, from the first statement to the last");
        CheckSaver it = program(s(WHILE), s(NEW, 3, 0), s(END));
        tellTimes(it, 58, WRITE);
        tell(it, s(NEW, 2, 0), s(LENGTH, 1, 2), s(WRITE));
        it.start();
        due("against its own", it.highest(63, 1, 2), 0);
        due("against the other", it.highest(63, 1, 3), FREE);
    }

    private static void dueThreeValues(int ahead, int a, int b, int c) {
        int[] arrays = {a, b, c};
        for (int asked = 0; asked < 3; asked++) {
            CheckSaver it = new CheckSaver();
            tellTimes(it, ahead, WRITE);
            tell(it, s(IF), s(NEW, a, 0), s(END), s(WHILE), s(NEW, b, 0), s(END), s(NEW, c, 0), s(LENGTH, 1, arrays[asked]), s(SET, 2, 7));
            if (ahead + 9 < 64) {
                tell(it, s(WRITE));
            }
            it.start();
            String what = "r" + a + ", r" + b + ", r" + c + " behind " + ahead;
            for (int other = 0; other < 3; other++) {
                due(what + ": the length of one against another", it.highest(ahead + 8, 1, arrays[other]), other == asked ? 0 : FREE);
                if (ahead + 9 < 64) {
                    due(what + ": SET against one", it.highest(ahead + 9, 2, arrays[other]), 7);
                }
            }
        }
    }

    public static void main(String[] args) {
        leasts();
        highests();
        known();
        there();
        values();
        inOneAnother();
        valuesOfTheirOwn();
        firstAndLast();
        finish("TermsJoinsTest");
    }
}
