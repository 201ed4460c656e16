import java.util.Arrays;
import java.util.function.Consumer;
import java.util.function.Supplier;

/** What the tests of the project share: due answers, due throws, and short names of statements. */
class Expect {
    static final int NONE = CheckSaver.NONE;
    static final int FREE = CheckSaver.FREE;
    static final int LEAST_INT = Integer.MIN_VALUE;
    static final int GREATEST_INT = Integer.MAX_VALUE;
    static final String STATE = "IllegalStateException";
    static final String ARGUMENT = "IllegalArgumentException";
    static final String INDEX = "IndexOutOfBoundsException";

    static final int SET = 0, ADD = 1, READ = 2, LENGTH = 3, LOAD = 4, STORE = 5, NEW = 6, NULL = 7, LET = 8;
    static final int IF = 9, ELSE = 10, END = 11, WHILE = 12, WRITE = 13;
    static final int ZERO = 10;

    private static final long MOST_SECONDS = 600;

    private static int wrong = 0;
    private static volatile String sentence = "";

    // A call that does not end must fail its test, not hang all of them.
    static {
        Thread watch = new Thread(() -> {
            try {
                Thread.sleep(MOST_SECONDS * 1000);
            } catch (InterruptedException e) {
                return;
            }
            System.out.println(sentence + "no end within " + MOST_SECONDS + " seconds");
            Runtime.getRuntime().halt(1);
        });
        watch.setDaemon(true);
        watch.start();
    }

    interface Call {
        int answer();
    }

    /** The document's sentence that the checks behind this one are of. */
    static void sentence(String words) {
        sentence = "[" + words + "] ";
    }

    static void fail(String what) {
        wrong++;
        System.out.println(sentence + what);
    }

    static void due(String what, int got, int want) {
        if (got != want) {
            fail(what + " answered " + got + ", due is " + want);
        }
    }

    static void dueThrow(String what, String want, Call call) {
        String got = answerOf(call);
        if (!got.equals(want)) {
            fail(what + " gave " + got + ", due is " + want);
        }
    }

    private static String answerOf(Call call) {
        try {
            return "answer " + call.answer();
        } catch (RuntimeException e) {
            return e.getClass().getSimpleName();
        }
    }

    /** A new object with these statements (sort, x, y, z; zeros at the end may be left out). */
    static CheckSaver program(int[]... statements) {
        CheckSaver c = new CheckSaver();
        tell(c, statements);
        return c;
    }

    static void tell(CheckSaver c, int[]... statements) {
        for (int[] given : statements) {
            int[] s = Arrays.copyOf(given, 4);
            if (c.put(s[0], s[1], s[2], s[3]) == NONE) {
                fail("put " + Arrays.toString(s) + " answered NONE");
            }
        }
    }

    static void tellTimes(CheckSaver c, int times, int... statement) {
        for (int i = 0; i < times; i++) {
            tell(c, statement);
        }
    }

    static void giveAll(CheckSaver c, int... inputs) {
        for (int v : inputs) {
            c.give(v);
        }
    }

    static CheckSaver started(int[]... statements) {
        CheckSaver c = program(statements);
        c.start();
        return c;
    }

    /** Started and run to its end or stop, at most 2000 statements. */
    static CheckSaver ran(int[]... statements) {
        return ranWith(new int[0], statements);
    }

    static CheckSaver ranWith(int[] inputs, int[]... statements) {
        CheckSaver c = program(statements);
        giveAll(c, inputs);
        c.start();
        c.run(2000);
        return c;
    }

    static int[] s(int... statement) {
        return statement;
    }

    /** The first rows and behind them the second ones. */
    static int[][] join(int[][] first, int[]... second) {
        int[][] all = Arrays.copyOf(first, first.length + second.length);
        System.arraycopy(second, 0, all, first.length, second.length);
        return all;
    }

    /** All that the run answers, for arrays of up to 4 places and up to 4 outputs. */
    static String toldOfRun(CheckSaver c) {
        StringBuilder b = new StringBuilder();
        for (int what = 0; what <= 6; what++) {
            b.append("state ").append(c.state(what)).append(' ');
        }
        for (int n = 0; n < 10; n++) {
            b.append("number ").append(c.number(n)).append(' ');
        }
        for (int r = 0; r < 4; r++) {
            b.append("length ").append(c.length(r)).append(' ');
            for (int i = 0; i < 4; i++) {
                b.append("place ").append(c.place(r, i)).append(' ');
            }
        }
        for (int k = 0; k < 4; k++) {
            b.append("output ").append(c.output(k)).append(' ');
        }
        return b.toString();
    }

    /** All that is known before each of the statements, up to 6 so that 512 calls are enough. */
    private static String toldOfKnown(CheckSaver c, int statements) {
        StringBuilder b = new StringBuilder();
        for (int k = 0; k < statements; k++) {
            int at = k;
            b.append("needless ").append(answerOf(() -> c.needless(at))).append(' ');
            for (int n = 0; n < 10; n++) {
                int number = n;
                b.append("least ").append(answerOf(() -> c.least(at, number))).append(' ');
                for (int r = 0; r < 4; r++) {
                    int array = r;
                    b.append("highest ").append(answerOf(() -> c.highest(at, number, array))).append(' ');
                }
            }
        }
        return b.toString();
    }

    /**
     * A call that is refused changes nothing: an object that had it and one that had not answer
     * the same to all questions, run on alike, and have as many inputs and statements at last.
     */
    static void dueUnchanged(String what, Supplier<CheckSaver> made, int statements, Consumer<CheckSaver> refused) {
        CheckSaver with = made.get();
        CheckSaver without = made.get();
        refused.accept(with);
        dueSame(what, toldOfKnown(with, statements), toldOfKnown(without, statements));
        dueSame(what, toldOfRun(with), toldOfRun(without));
        dueSame(what + ", run on", answerOf(() -> with.run(2000)), answerOf(() -> without.run(2000)));
        dueSame(what + ", run on", toldOfRun(with), toldOfRun(without));
        dueSame(what + ", inputs", answerOf(() -> with.give(1)), answerOf(() -> without.give(1)));
        dueSame(what + ", start", answerOf(() -> with.start()), answerOf(() -> without.start()));
        dueSame(what + ", statements", answerOf(() -> with.clear()), answerOf(() -> without.clear()));
    }

    private static void dueSame(String what, String got, String want) {
        if (!got.equals(want)) {
            fail(what + " changed something: " + got + ", due is " + want);
        }
    }

    static void finish(String name) {
        System.out.println(wrong == 0 ? name + ": all as due" : name + ": " + wrong + " not as due");
        if (wrong != 0) {
            System.exit(1);
        }
    }
}
