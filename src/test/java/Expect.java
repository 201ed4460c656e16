import java.util.Arrays;

/** What the tests of the project share: due answers, due throws, and short names of statements. */
class Expect {
    static final int NONE = CheckSaver.NONE;
    static final int FREE = CheckSaver.FREE;
    static final String STATE = "IllegalStateException";
    static final String ARGUMENT = "IllegalArgumentException";
    static final String INDEX = "IndexOutOfBoundsException";

    static final int SET = 0, ADD = 1, READ = 2, LENGTH = 3, LOAD = 4, STORE = 5, NEW = 6, NULL = 7, LET = 8;
    static final int IF = 9, ELSE = 10, END = 11, WHILE = 12, WRITE = 13;
    static final int ZERO = 10;

    private static int wrong = 0;

    interface Call {
        int answer();
    }

    static void due(String what, int got, int want) {
        if (got != want) {
            wrong++;
            System.out.println(what + " answered " + got + ", due is " + want);
        }
    }

    static void dueThrow(String what, String want, Call call) {
        String got;
        try {
            got = "answer " + call.answer();
        } catch (RuntimeException e) {
            got = e.getClass().getSimpleName();
        }
        if (!got.equals(want)) {
            wrong++;
            System.out.println(what + " gave " + got + ", due is " + want);
        }
    }

    static void fail(String what) {
        wrong++;
        System.out.println(what);
    }

    /** A new object with these statements (sort, x, y, z; zeros at the end may be left out). */
    static CheckSaver program(int[]... statements) {
        CheckSaver c = new CheckSaver();
        tell(c, statements);
        return c;
    }

    static void tell(CheckSaver c, int[]... statements) {
        for (int[] given : statements) {
            int[] s = Arrays.copyOf(given, 4);
            if (c.put(s[0], s[1], s[2], s[3]) == NONE) {
                fail("put " + Arrays.toString(s) + " answered NONE");
            }
        }
    }

    static CheckSaver started(int[]... statements) {
        CheckSaver c = program(statements);
        c.start();
        return c;
    }

    /** Started and run to its end or stop, at most 2000 statements. */
    static CheckSaver ran(int[]... statements) {
        CheckSaver c = started(statements);
        c.run(2000);
        return c;
    }

    static int[] s(int... statement) {
        return statement;
    }

    static void finish(String name) {
        System.out.println(wrong == 0 ? name + ": all as due" : name + ": " + wrong + " not as due");
        if (wrong != 0) {
            System.exit(1);
        }
    }
}
