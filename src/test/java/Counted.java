/** A CheckSaver whose calls are counted: what it answers behind the 512th is free, so no test may ask. */
final class Counted {
    private static final int MOST_CALLS = 512;

    private final CheckSaver it = new CheckSaver();
    private int used = 0;

    int left() {
        return MOST_CALLS - used;
    }

    private CheckSaver count() {
        used++;
        if (used > MOST_CALLS) {
            throw new AssertionError("more than 512 calls of one object");
        }
        return it;
    }

    int put(int[] s) {
        return count().put(s[0], s[1], s[2], s[3]);
    }

    int clear() {
        return count().clear();
    }

    int give(int v) {
        return count().give(v);
    }

    int start() {
        return count().start();
    }

    int needless(int k) {
        return count().needless(k);
    }

    int least(int k, int n) {
        return count().least(k, n);
    }

    int highest(int k, int n, int r) {
        return count().highest(k, n, r);
    }

    int run(int n) {
        return count().run(n);
    }

    int output(int k) {
        return count().output(k);
    }

    int state(int what) {
        return count().state(what);
    }

    int number(int n) {
        return count().number(n);
    }

    int length(int r) {
        return count().length(r);
    }

    int place(int r, int i) {
        return count().place(r, i);
    }
}
