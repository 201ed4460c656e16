/** The terms: what is known before each statement, rule by rule, and that every run goes as if all checks were made. */
public final class TermsTest extends Expect {
    private static void statements() {
        CheckSaver c = started(s(READ, 0), s(NEW, 0, 0), s(LET, 1, 0), s(SET, 1, 5), s(NEW, 2, 1), s(LENGTH, 2, 0),
                s(ADD, 3, 2, -2), s(LENGTH, 4, 3), s(READ, 5), s(LOAD, 6, 0, 5), s(LOAD, 5, 1, 5), s(WRITE, 0));
        due("NEW: its number is not below 0", c.least(2, 0), 0);
        due("NEW: its number against it", c.highest(2, 0, 0), 0);
        due("LET: against the same value", c.highest(3, 0, 1), 0);
        due("SET without a known length", c.highest(4, 1, 0), 5);
        due("NEW of a known length: its number", c.highest(5, 1, 2), 0);
        due("NEW of a known length: a known number", c.highest(5, 9, 2), -5);
        due("NEW: a number that is not known", c.highest(5, 0, 2), FREE);
        due("LENGTH: least", c.least(6, 2), 0);
        due("LENGTH: against its value", c.highest(6, 2, 0), 0);
        due("LENGTH: against its value by another name", c.highest(6, 2, 1), 0);
        due("LENGTH: against another value", c.highest(6, 2, 2), FREE);
        due("ADD: least", c.least(7, 3), -2);
        due("ADD: highest", c.highest(7, 3, 1), -2);
        due("LENGTH of null: least", c.least(8, 4), 0);
        due("LENGTH of null: against null", c.highest(8, 4, 3), FREE);
        due("null is never there", c.needless(7), 0);
        due("LOAD: its index is not below 0", c.least(10, 5), 0);
        due("LOAD: its index is below the length", c.highest(10, 5, 0), -1);
        due("LOAD: by another name, too", c.highest(10, 5, 1), -1);
        due("LOAD: not against another", c.highest(10, 5, 2), FREE);
        due("LOAD: nothing is known of what it loads", c.least(10, 6), FREE);
        due("LOAD into its own index", c.least(11, 5), FREE);
        due("LOAD into its own index, highest", c.highest(11, 5, 0), FREE);

        CheckSaver better = started(s(SET, 0, 9), s(NEW, 0, 0), s(SET, 1, 3), s(LOAD, 2, 0, 1), s(WRITE, 1));
        due("the greater least", better.least(4, 1), 3);
        due("the lower highest", better.highest(4, 1, 0), -6);
        CheckSaver notKnown = started(s(SET, 0, 4), s(NEW, 0, 0), s(LENGTH, 1, 0), s(NEW, 1, 1), s(SET, 2, 3), s(WRITE, 2));
        due("LENGTH is not known, whatever the length", notKnown.highest(5, 2, 1), 3);
        due("a known length", notKnown.highest(5, 2, 0), -1);
        CheckSaver wrong = started(s(SET, 0, -100), s(ADD, 0, 0, -100), s(NEW, 0, 0), s(SET, 1, 0), s(SET, 2, 1), s(WRITE, 0));
        due("a known length below 0", wrong.highest(4, 1, 0), 200);
        due("above 200 by a known length", wrong.highest(5, 2, 0), FREE);
        due("NEW draws a least up", wrong.least(3, 0), 0);
        CheckSaver far = started(s(SET, 1, 100), s(ADD, 1, 1, 100), s(ADD, 1, 1, 1), s(READ, 0), s(NEW, 0, 0), s(WRITE));
        due("a number known to be above 200", far.highest(5, 1, 0), FREE);
        CheckSaver maybe = started(s(READ, 0), s(IF, 0, 10, 0), s(NEW, 0, 1), s(END), s(LOAD, 2, 0, 1), s(LENGTH, 3, 0), s(WRITE));
        due("LOAD of one that may be null", maybe.needless(4), 2);
        due("it is there behind that", maybe.needless(5), 1);
        CheckSaver sum = started(s(READ, 0), s(ADD, 1, 0, 5), s(NEW, 0, 2), s(NEW, 1, 1), s(SET, 4, 3), s(WRITE));
        due("a sum of what is not known is not known", sum.highest(3, 1, 0), FREE);
        due("NEW of it has no known length", sum.highest(5, 4, 1), 3);
        CheckSaver at0 = started(s(NEW, 0, 0), s(SET, 1, 2), s(WRITE));
        due("NEW as the first statement", at0.highest(2, 1, 0), 2);
        CheckSaver n0 = started(s(SET, 1, 4), s(NEW, 0, 1), s(WRITE));
        due("n0 against a new value", n0.highest(2, 0, 0), -4);
        CheckSaver onNull = started(s(READ, 0), s(LOAD, 1, 0, 0), s(WRITE, 0));
        due("LOAD of null: least", onNull.least(2, 0), 0);
        due("LOAD of null: highest", onNull.highest(2, 0, 0), FREE);
    }

    private static void conditions() {
        CheckSaver c = started(s(READ, 9), s(NEW, 0, 9), s(LENGTH, 0, 0), s(READ, 1), s(IF, 1, 0, -2), s(WRITE), s(ELSE),
                s(WRITE), s(END), s(WRITE));
        due("holds: nx has 0 - 2 - 1", c.highest(5, 1, 0), -3);
        due("holds: nothing of ny by a least that is none", c.least(5, 0), 0);
        due("before ELSE is the end of the first way", c.highest(6, 1, 0), -3);
        due("does not hold: nx has 0 - 2", c.least(7, 1), -2);
        due("does not hold: none is passed over", c.highest(7, 0, 0), 0);
        due("before END is the end of the second way", c.least(8, 1), -2);
        due("behind END no more", c.least(9, 1), FREE);

        CheckSaver back = started(s(READ, 9), s(NEW, 0, 9), s(SET, 0, 7), s(READ, 1), s(IF, 0, 1, 3), s(WRITE), s(ELSE),
                s(WRITE), s(END));
        due("holds: ny has 7 + 1 - 3", back.least(5, 1), 5);
        due("does not hold: ny has 7 - 3", back.highest(7, 1, 0), 4);
        due("does not hold: nothing of its least", back.least(7, 1), FREE);

        CheckSaver zero = started(s(SET, 9, 10), s(NEW, 0, 9), s(READ, 8), s(NEW, 1, 8), s(READ, 1), s(IF, 1, 10, 4), s(WRITE),
                s(ELSE), s(WRITE), s(END));
        due("0 in place: highest, known length", zero.highest(6, 1, 0), -7);
        due("0 in place: highest, no known length", zero.highest(6, 1, 1), 3);
        due("0 in place: against null", zero.highest(6, 1, 2), FREE);
        due("0 in place: least", zero.least(8, 1), 4);

        CheckSaver same = started(s(READ, 9), s(NEW, 0, 9), s(SET, 0, 2), s(IF, 0, 0, -1), s(WRITE), s(ELSE), s(WRITE), s(END));
        due("nx and ny the same, holds: highest", same.highest(4, 0, 0), 0);
        due("nx and ny the same, holds: least", same.least(4, 0), 4);
        due("nx and ny the same, does not hold: least", same.least(6, 0), 2);
        due("nx and ny the same, does not hold: highest", same.highest(6, 0, 0), 2);

        CheckSaver last = started(s(READ, 8), s(NEW, 3, 8), s(LENGTH, 8, 3), s(READ, 9), s(IF, 8, 9, 5), s(WRITE), s(ELSE), s(WRITE), s(END));
        due("n9 and r3, holds", last.least(5, 9), -4);
        due("n9 and r3, does not hold", last.highest(7, 9, 3), -5);

        CheckSaver edge = started(s(READ, 9), s(NEW, 0, 9), s(SET, 0, 100), s(ADD, 0, 0, 1), s(READ, 1), s(IF, 1, 0, 100),
                s(WRITE), s(END), s(IF, 1, 0, 99), s(WRITE), s(END), s(READ, 2), s(SET, 3, -100), s(ADD, 3, 3, -1),
                s(IF, 3, 2, 100), s(WRITE), s(END), s(IF, 3, 2, 101 - 1), s(END), s(WRITE));
        due("200 by a condition", edge.highest(6, 1, 0), 200);
        due("-200 by a condition", edge.least(15, 2), -200);
        CheckSaver beyond = started(s(READ, 9), s(NEW, 0, 9), s(SET, 0, 100), s(ADD, 0, 0, 2), s(READ, 1), s(IF, 1, 0, 100),
                s(WRITE), s(END), s(READ, 2), s(SET, 3, -100), s(ADD, 3, 3, -2), s(IF, 3, 2, 100), s(WRITE), s(END));
        due("201 by a condition", beyond.highest(6, 1, 0), FREE);
        due("-201 by a condition", beyond.least(12, 2), FREE);
        due("a known number stays known", started(s(SET, 0, 5), s(IF, 0, 10, 0), s(NEW, 0, 0), s(SET, 1, 3), s(WRITE),
                s(END)).highest(4, 1, 0), -2);
    }

    private static void joinsOfIfs() {
        CheckSaver c = started(s(READ, 0), s(SET, 1, 4), s(SET, 2, 7), s(NEW, 1, 2), s(NEW, 2, 2), s(IF, 0, 10, 0), s(NEW, 0, 1),
                s(SET, 3, 2), s(SET, 4, 6), s(SET, 5, 1), s(ELSE), s(NEW, 0, 2), s(SET, 3, 9), s(SET, 4, 6), s(READ, 5),
                s(NULL, 1), s(END), s(NEW, 3, 4), s(LENGTH, 6, 0), s(LENGTH, 6, 1), s(LENGTH, 7, 2), s(WRITE));
        due("the lower least", c.least(17, 3), 2);
        due("a least that is none on one way", c.least(17, 5), FREE);
        due("the greater highest, against the same value", c.highest(17, 3, 2), 2);
        due("the greater highest, against two values", c.highest(17, 3, 0), 2);
        due("n1 is 4: 0 against 4 places, -3 against 7", c.highest(17, 1, 0), 0);
        due("n2 is 7: 3 against 4 places, 0 against 7", c.highest(17, 2, 0), 3);
        due("null on one way", c.highest(17, 1, 1), FREE);
        due("known on both ways", c.highest(18, 1, 3), -2);
        due("the same known on both ways: length", c.highest(18, 4, 3), 0);
        due("two known on both ways", c.highest(18, 3, 3), FREE);
        due("there on both ways", c.needless(18), 1);
        due("there on one way", c.needless(19), 0);
        due("there before", c.needless(20), 1);

        CheckSaver alone = started(s(READ, 0), s(SET, 1, 3), s(NEW, 0, 1), s(IF, 0, 1, 0), s(SET, 0, 50), s(END), s(SET, 2, 0),
                s(WRITE));
        due("without ELSE the other way does not hold", alone.least(6, 0), 3);
        due("of its highest", alone.highest(6, 0, 0), FREE);
        due("the same value keeps its known length", alone.highest(7, 2, 0), -3);

        CheckSaver fresh = started(s(READ, 0), s(SET, 1, 3), s(IF, 0, 1, 0), s(NEW, 0, 1), s(LET, 1, 0), s(ELSE), s(NEW, 0, 1),
                s(LET, 1, 0), s(END), s(SET, 2, 0), s(LENGTH, 3, 0), s(WRITE));
        due("a new value has no known length", fresh.highest(10, 2, 0), 0);
        due("each variable has a new value of its own", fresh.highest(11, 3, 1), FREE);
        due("against its own", fresh.highest(11, 3, 0), 0);

        CheckSaver n0 = started(s(READ, 1), s(IF, 1, 10, 0), s(SET, 0, 3), s(END), s(NEW, 0, 1), s(WRITE));
        due("n0, known on one way", n0.highest(5, 0, 0), FREE);

        CheckSaver checked = started(s(READ, 0), s(IF, 0, 10, 0), s(NEW, 0, 1), s(END), s(IF, 0, 10, 5), s(LENGTH, 2, 0), s(ELSE),
                s(LENGTH, 3, 0), s(END), s(LENGTH, 4, 0));
        due("null or there", checked.needless(5), 0);
        due("there by a check on both ways", checked.needless(9), 1);
    }

    private static void joinsOfWhiles() {
        CheckSaver down = started(s(SET, 0, 100), s(WHILE, 1, 0, 0), s(ADD, 0, 0, -1), s(END), s(WRITE));
        due("a least falls to what the while holds it at", down.least(1, 0), 0);
        due("within ny has 1 more than nx", down.least(2, 0), 1);
        due("behind it", down.least(4, 0), 0);
        CheckSaver ever = started(s(SET, 0, 100), s(WHILE, 1, 10, 5), s(ADD, 0, 0, -1), s(END), s(WRITE));
        due("a least that falls for ever is none", ever.least(1, 0), FREE);
        due("within", ever.least(2, 0), FREE);
        due("behind", ever.least(4, 0), FREE);
        due("of n1 nothing fell", ever.least(4, 1), 5);

        CheckSaver held = started(s(SET, 0, 50), s(WHILE, 1, 0, 0), s(ADD, 0, 0, -1), s(IF, 0, 10, 3), s(SET, 0, 3), s(END), s(END),
                s(WRITE));
        due("a least falls as far as it must", held.least(1, 0), 3);
        due("within", held.least(2, 0), 3);
        due("behind the if", held.least(6, 0), 3);

        CheckSaver up = started(s(READ, 9), s(NEW, 0, 9), s(LENGTH, 2, 0), s(SET, 0, -90), s(WHILE, 0, 2, 5), s(ADD, 0, 0, 3),
                s(END), s(WRITE));
        due("a highest grows as far as it must", up.highest(4, 0, 0), 7);
        due("within", up.highest(5, 0, 0), 4);
        due("behind it", up.highest(7, 0, 0), 7);
        due("the least behind it", up.least(7, 0), 5);

        CheckSaver known = started(s(SET, 0, 6), s(SET, 1, 6), s(WHILE, 2, 0, 0), s(SET, 1, 6), s(ADD, 2, 2, 1), s(END), s(NEW, 0, 0),
                s(WRITE));
        due("known, as nothing within sets it", known.highest(7, 0, 0), 0);
        due("not known, though it is set to the same", known.highest(7, 1, 0), FREE);
        due("its least stays", known.least(7, 1), 6);

        CheckSaver arrays = started(s(SET, 0, 6), s(SET, 1, 9), s(NEW, 0, 0), s(LET, 1, 0), s(NULL, 2), s(WHILE, 3, 0, 0), s(LENGTH, 4, 0),
                s(NEW, 0, 1), s(NULL, 2), s(SET, 5, 2), s(ADD, 3, 3, 1), s(END), s(LENGTH, 4, 0), s(LENGTH, 4, 1), s(LENGTH, 4, 2));
        due("a new value against 6 and 9 places", arrays.highest(5, 1, 0), 3);
        due("of n0", arrays.highest(5, 0, 0), 0);
        due("the value that stays", arrays.highest(5, 0, 1), 0);
        due("a new value of nulls", arrays.highest(5, 0, 2), FREE);
        due("it is there", arrays.needless(6), 1);
        due("and behind the while", arrays.needless(12), 1);
        due("as is the other", arrays.needless(13), 1);
        due("nulls are not", arrays.needless(14), 0);
        due("SET against the value of NEW within", arrays.highest(10, 5, 0), -7);
        due("SET against null", arrays.highest(10, 5, 2), FREE);

        CheckSaver nulls = started(s(WHILE, 0, 10, 2), s(SET, 1, 4), s(ADD, 0, 0, 1), s(NULL, 0), s(END), s(LENGTH, 2, 0));
        due("a new value, whatever it has: it is no more null", nulls.highest(2, 1, 0), 4);
        due("before NULL", nulls.highest(3, 1, 0), 4);
        due("behind it", nulls.highest(4, 1, 0), FREE);

        CheckSaver goes = started(s(READ, 0), s(NEW, 0, 0), s(WHILE, 1, 10, 3), s(LENGTH, 2, 0), s(ADD, 1, 1, 1), s(READ, 3),
                s(IF, 3, 10, 1), s(NULL, 0), s(END), s(END));
        due("what is there goes", goes.needless(3), 0);
    }

    private static void changedWithinWhiles() {
        CheckSaver loads = started(s(SET, 0, 6), s(SET, 1, 6), s(NEW, 0, 0), s(WHILE, 2, 10, 3), s(LOAD, 1, 0, 2), s(ADD, 2, 2, 1), s(END),
                s(NEW, 1, 0), s(WRITE));
        due("a number that is loaded within is not known", loads.highest(8, 1, 1), FREE);
        CheckSaver first = started(s(WHILE, 1, 10, 3), s(READ, 0), s(END), s(NEW, 0, 1), s(WRITE));
        due("n0, read within", first.highest(4, 0, 0), FREE);
        CheckSaver lets = started(s(SET, 0, 6), s(NEW, 0, 0), s(NEW, 1, 0), s(SET, 5, 1), s(WHILE, 2, 10, 3), s(LET, 1, 0), s(ADD, 2, 2, 1),
                s(END), s(SET, 3, 2), s(LENGTH, 4, 0), s(WRITE));
        due("an array that is let within has a new value", lets.highest(9, 3, 1), 2);
        due("the one that it was let from has not", lets.highest(9, 3, 0), -4);
        due("so they are two", lets.highest(10, 4, 1), FREE);
        due("against both of its values", lets.highest(8, 5, 1), -5);
        CheckSaver news = started(s(SET, 0, 6), s(NEW, 0, 0), s(WHILE, 2, 10, 3), s(NEW, 0, 0), s(ADD, 2, 2, 1), s(END), s(SET, 3, 2), s(WRITE));
        due("an array that is made within has a new value", news.highest(7, 3, 0), 2);
        CheckSaver stores = started(s(SET, 0, 6), s(NEW, 0, 0), s(WHILE, 2, 10, 3), s(STORE, 0, 2, 2), s(WRITE), s(ADD, 2, 2, 1), s(END),
                s(SET, 3, 2), s(SET, 4, 4), s(NEW, 2, 3), s(WRITE));
        due("STORE and WRITE give no new value", stores.highest(10, 4, 0), -2);
        due("nor a number that is not known", stores.highest(10, 0, 2), 4);
    }

    private static void ifsWithinWhiles() {
        CheckSaver c = started(s(SET, 0, 40), s(WHILE, 9, 10, 3), s(READ, 1), s(IF, 1, 10, 0), s(WRITE), s(ELSE), s(ADD, 2, 0, 0), s(END),
                s(WRITE), s(READ, 1), s(IF, 1, 10, 0), s(SET, 3, 1), s(END), s(ADD, 4, 0, 0), s(ADD, 0, 0, -1), s(IF, 0, 10, -5),
                s(SET, 0, -5), s(END), s(END), s(WRITE));
        due("the way where it holds, again", c.least(4, 0), -5);
        due("the way where it does not hold, again", c.least(6, 0), -5);
        due("the end of that way", c.least(7, 2), -5);
        due("behind its END", c.least(8, 2), -5);
        due("behind an if without ELSE", c.least(13, 0), -5);
        due("and on", c.least(14, 4), -5);
        due("behind the while", c.least(19, 2), -5);

        CheckSaver one = started(s(SET, 0, 40), s(WHILE, 9, 10, 3), s(READ, 1), s(IF, 1, 10, 0), s(SET, 2, 7), s(WRITE), s(ELSE), s(SET, 2, 9),
                s(END), s(IF, 1, 10, 0), s(ADD, 3, 0, 0), s(ELSE), s(SET, 0, 50), s(SET, 3, 60), s(END), s(ADD, 0, 3, -1), s(END), s(WRITE));
        due("what falls on the first way alone", one.least(14, 3), 60);
        due("falls behind the END, too", one.least(15, 3), FREE);

        CheckSaver first = started(s(SET, 0, 40), s(WHILE, 9, 10, 3), s(READ, 1), s(IF, 1, 10, 0), s(SET, 0, 7), s(WRITE), s(ELSE), s(WRITE),
                s(END), s(WRITE), s(ADD, 0, 0, -1), s(END));
        due("nothing moves at the end of the first way", first.least(6, 0), 7);
        due("but on the second", first.least(7, 0), FREE);
        due("and behind END", first.least(9, 0), FREE);
        CheckSaver without = started(s(SET, 0, 40), s(WHILE, 9, 10, 3), s(READ, 1), s(IF, 1, 10, 0), s(SET, 0, 7), s(WRITE), s(END), s(WRITE),
                s(ADD, 0, 0, -1), s(END));
        due("nothing moves before END", without.least(6, 0), 7);
        due("but behind it", without.least(7, 0), FREE);
        CheckSaver inner = started(s(SET, 0, 40), s(WHILE, 9, 10, 3), s(WHILE, 1, 10, 3), s(SET, 0, 7), s(WRITE), s(END), s(WRITE),
                s(ADD, 0, 0, -1), s(END));
        due("nothing moves before the END of a while", inner.least(5, 0), 7);
        due("but behind it, by the while", inner.least(6, 0), FREE);
        CheckSaver second = started(s(SET, 0, 40), s(WHILE, 9, 10, 3), s(READ, 1), s(IF, 1, 10, 0), s(WRITE), s(ELSE), s(SET, 0, 7), s(WRITE),
                s(END), s(WRITE), s(ADD, 0, 0, -1), s(END));
        due("nothing moves at the end of the second way", second.least(8, 0), 7);
        due("but behind END, by the first", second.least(9, 0), FREE);

        CheckSaver there = started(s(NEW, 0, 0), s(SET, 9, 0), s(WHILE, 9, 10, 3), s(LENGTH, 1, 0), s(READ, 1), s(READ, 2), s(NULL, 0), s(END));
        due("r0 is there no more on the way behind END", there.needless(3), 0);
        CheckSaver alone = started(s(READ, 1), s(NEW, 0, 1), s(LET, 1, 0), s(READ, 0), s(READ, 1), s(READ, 2), s(READ, 3), s(READ, 4), s(READ, 5),
                s(READ, 6), s(READ, 7), s(READ, 8), s(READ, 9), s(WHILE, 9, 10, 3), s(WHILE, 9, 10, 3), s(LENGTH, 8, 0), s(READ, 8),
                s(END), s(READ, 9), s(LET, 0, 2), s(END));
        due("nothing but what is there moves", alone.needless(15), 0);
    }

    private static void whilesInWhiles() {
        CheckSaver c = started(s(SET, 0, 20), s(WHILE, 1, 10, 9), s(SET, 2, 0), s(WHILE, 2, 10, 9), s(ADD, 2, 2, 1), s(ADD, 0, 3, 0), s(END),
                s(ADD, 3, 4, 0), s(ADD, 4, 5, -1), s(IF, 4, 10, -7), s(SET, 4, -7), s(END), s(ADD, 5, 4, 0), s(ADD, 1, 1, 1), s(END),
                s(WRITE));
        due("what falls within another while", c.least(3, 0), -7);
        due("comes to this one", c.least(1, 0), -7);
        due("and behind both", c.least(15, 0), -7);
        due("the inner one begins anew", c.least(3, 2), 0);
        due("its end", c.least(7, 2), 9);

        int[][] deep = new int[18][];
        deep[0] = s(SET, 0, 100);
        for (int i = 1; i <= 8; i++) {
            deep[i] = s(WHILE, 1, 10, 5);
            deep[9 + i] = s(END);
        }
        deep[9] = s(ADD, 0, 0, -1);
        CheckSaver eight = started(deep);
        due("eight whiles in one another", eight.least(1, 0), FREE);
        due("innermost", eight.least(9, 0), FREE);
        due("n1 stays", eight.least(9, 1), 0);
    }

    /** The slowest that was found: ten numbers hand one least on, one step for each time round. */
    private static void slowest() {
        CheckSaver c = program(s(SET, 0, 100));
        for (int i = 0; i < 41; i++) {
            tell(c, s(ADD, 0, 0, 100));
        }
        for (int n = 1; n < 10; n++) {
            tell(c, s(ADD, n, 0, 0));
        }
        tell(c, s(WHILE, 0, 10, 0));
        for (int n = 9; n > 0; n--) {
            tell(c, s(ADD, n, n - 1, 0));
        }
        tell(c, s(ADD, 0, 9, -1), s(END));
        due("64 statements, less one", c.start(), 0);
        due("before the while", c.least(50, 0), 4200);
        for (int n = 0; n < 10; n++) {
            due("all fall to none, n" + n, c.least(51, n), FREE);
        }
    }

    public static void main(String[] args) {
        statements();
        conditions();
        joinsOfIfs();
        joinsOfWhiles();
        changedWithinWhiles();
        ifsWithinWhiles();
        whilesInWhiles();
        slowest();
        finish("TermsTest");
    }
}
