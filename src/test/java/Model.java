import java.util.ArrayList;
import java.util.Arrays;
import java.util.List;

/**
 * The document's rules once more, written another way than the class: what is known is kept for
 * every array value there can ever be, ways are followed by a list of work to do, and a run makes
 * every check. ModelTest compares the two.
 */
final class Model {
    private static final int FREE = CheckSaver.FREE;
    private static final int NO_LEAST = Integer.MIN_VALUE;

    /** What is known on a way. */
    private static final class Known {
        Integer[] number = new Integer[10];
        int[] least = new int[10];
        int[][] highest;
        int[] variable = new int[4];
        boolean[] there;

        Known(int values) {
            highest = new int[10][values];
            there = new boolean[values];
            Arrays.fill(number, 0);
            for (int[] row : highest) {
                Arrays.fill(row, FREE);
            }
        }

        Known copied() {
            Known k = new Known(there.length);
            k.number = number.clone();
            k.least = least.clone();
            for (int n = 0; n < 10; n++) {
                k.highest[n] = highest[n].clone();
            }
            k.variable = variable.clone();
            k.there = there.clone();
            return k;
        }

        boolean same(Known o) {
            return o != null && Arrays.equals(number, o.number) && Arrays.equals(least, o.least)
                    && Arrays.deepEquals(highest, o.highest) && Arrays.equals(variable, o.variable)
                    && Arrays.equals(there, o.there);
        }
    }

    final List<int[]> code = new ArrayList<>();
    private final int[] headOf;
    private final int[] elseOf;
    private final int[] endOf;
    private final Integer[] knownLength;
    /** valueOf[k][r]: the value that statement k gives array r; NEW uses r = 4. 0 is null. */
    private final int[][] valueOf;
    private int values = 1;
    private final Known[] before;
    /** Of a while what comes to it from above; of an END of an if what comes on the way not through it. */
    private final Known[] entry;

    Model(List<int[]> statements) {
        code.addAll(statements);
        int size = code.size();
        headOf = new int[size];
        elseOf = new int[size];
        endOf = new int[size];
        valueOf = new int[size][5];
        Arrays.fill(elseOf, -1);
        List<Integer> open = new ArrayList<>();
        for (int k = 0; k < size; k++) {
            int sort = code.get(k)[0];
            if (sort == 9 || sort == 12) {
                open.add(k);
            } else if (sort == 10) {
                headOf[k] = open.get(open.size() - 1);
                elseOf[headOf[k]] = k;
            } else if (sort == 11) {
                headOf[k] = open.remove(open.size() - 1);
                endOf[headOf[k]] = k;
            }
            if (sort == 6) {
                valueOf[k][4] = values++;
            }
            if (sort == 11 || sort == 12) {
                for (int r = 0; r < 4; r++) {
                    valueOf[k][r] = values++;
                }
            }
        }
        knownLength = new Integer[values];
        before = new Known[size + 1];
        entry = new Known[size + 1];
        workOut();
    }

    private void workOut() {
        // Known lengths come up on the first visit and never change: the order of visits only has to
        // reach each NEW ahead of every use of its value, which ascending order within the list does.
        boolean[] due = new boolean[code.size() + 1];
        comeTo(0, new Known(values), due);
        boolean any = true;
        while (any) {
            any = false;
            for (int k = 0; k < code.size(); k++) {
                if (due[k]) {
                    due[k] = false;
                    any = true;
                    visit(k, due);
                }
            }
        }
    }

    private void set(int k, Known now, boolean[] due) {
        if (!now.same(before[k])) {
            before[k] = now;
            due[k] = true;
        }
    }

    /** The one way that leads down to k. */
    private void comeTo(int k, Known now, boolean[] due) {
        if (k < code.size() && code.get(k)[0] == 12) {
            entry[k] = now;
            set(k, beforeWhile(k), due);
        } else {
            set(k, now, due);
        }
    }

    private Known beforeWhile(int k) {
        Known joined = entry[k].copied();
        Known back = before[endOf[k]];
        for (int v = 0; back != null && v < values; v++) {
            joinAgainst(joined, v, entry[k], v, back, v);
        }
        for (int n = 0; n < 10; n++) {
            if (back != null) {
                joined.least[n] = Math.min(joined.least[n], back.least[n]);
            }
        }
        for (int i = k + 1; i < endOf[k]; i++) {
            int[] s = code.get(i);
            if (s[0] <= 4) {
                joined.number[s[1]] = null;
            }
            if (s[0] >= 6 && s[0] <= 8) {
                int v = valueOf[k][s[1]];
                joined.variable[s[1]] = v;
                Known second = back == null ? entry[k] : back;
                joinAgainst(joined, v, entry[k], entry[k].variable[s[1]], second, second.variable[s[1]]);
            }
        }
        return joined;
    }

    private static void joinAgainst(Known joined, int v, Known a, int va, Known b, int vb) {
        joined.there[v] = a.there[va] && b.there[vb];
        for (int n = 0; n < 10; n++) {
            joined.highest[n][v] = Math.max(a.highest[n][va], b.highest[n][vb]);
        }
    }

    private Known behindIf(int k, Known a, Known b) {
        Known joined = a.copied();
        for (int v = 0; v < values; v++) {
            joinAgainst(joined, v, a, v, b, v);
        }
        for (int n = 0; n < 10; n++) {
            joined.least[n] = Math.min(a.least[n], b.least[n]);
            if (a.number[n] == null || !a.number[n].equals(b.number[n])) {
                joined.number[n] = null;
            }
        }
        for (int r = 0; r < 4; r++) {
            if (a.variable[r] != b.variable[r]) {
                joined.variable[r] = valueOf[k][r];
                joinAgainst(joined, valueOf[k][r], a, a.variable[r], b, b.variable[r]);
            }
        }
        return joined;
    }

    private void joinIf(int end, boolean[] due) {
        if (entry[end] != null && before[end] != null) {
            comeTo(end + 1, behindIf(end, entry[end], before[end]), due);
        }
    }

    private void visit(int k, boolean[] due) {
        int[] s = code.get(k);
        Known now = before[k].copied();
        switch (s[0]) {
            case 9:
            case 12:
                Known not = before[k].copied();
                condition(now, s[1], s[2], s[3], true);
                condition(not, s[1], s[2], s[3], false);
                comeTo(k + 1, now, due);
                if (s[0] == 12) {
                    comeTo(endOf[k] + 1, not, due);
                } else if (elseOf[k] >= 0) {
                    comeTo(elseOf[k] + 1, not, due);
                } else {
                    entry[endOf[k]] = not;
                    joinIf(endOf[k], due);
                }
                break;
            case 10:
                entry[endOf[headOf[k]]] = now;
                joinIf(endOf[headOf[k]], due);
                break;
            case 11:
                if (code.get(headOf[k])[0] == 12) {
                    set(headOf[k], beforeWhile(headOf[k]), due);
                } else {
                    joinIf(k, due);
                }
                break;
            default:
                plain(k, s, now);
                comeTo(k + 1, now, due);
        }
    }

    private static int low(int least, int more) {
        return least == NO_LEAST || least + more < -200 ? NO_LEAST : least + more;
    }

    private static int high(int highest, int more) {
        return highest == FREE || highest + more > 200 ? FREE : highest + more;
    }

    private int constantAgainst(int c, int v) {
        return v == 0 ? FREE : high(c, knownLength[v] == null ? 0 : -knownLength[v]);
    }

    private void condition(Known now, int x, int y, int z, boolean holds) {
        int leastX = now.least[x];
        int leastY = y == 10 ? 0 : now.least[y];
        int[] highX = now.highest[x].clone();
        int[] highY = new int[values];
        for (int v = 0; v < values; v++) {
            highY[v] = y == 10 ? constantAgainst(0, v) : now.highest[y][v];
        }
        if (holds) {
            for (int v = 1; v < values; v++) {
                now.highest[x][v] = Math.min(highX[v], high(highY[v], z - 1));
            }
            if (y != 10) {
                now.least[y] = Math.max(leastY, low(leastX, 1 - z));
            }
        } else {
            now.least[x] = Math.max(leastX, low(leastY, z));
            for (int v = 1; y != 10 && v < values; v++) {
                now.highest[y][v] = Math.min(highY[v], high(highX[v], -z));
            }
        }
    }

    private void index(Known now, int r, int n) {
        int v = now.variable[r];
        now.least[n] = Math.max(now.least[n], 0);
        if (v != 0) {
            now.there[v] = true;
            now.highest[n][v] = Math.min(now.highest[n][v], -1);
        }
    }

    private static void nothing(Known now, int n) {
        now.number[n] = null;
        now.least[n] = NO_LEAST;
        Arrays.fill(now.highest[n], FREE);
    }

    private void plain(int k, int[] s, Known now) {
        int x = s[1];
        int y = s[2];
        int z = s[3];
        switch (s[0]) {
            case 0:
                now.number[x] = y;
                now.least[x] = y;
                for (int v = 0; v < values; v++) {
                    now.highest[x][v] = constantAgainst(y, v);
                }
                break;
            case 1:
                now.number[x] = now.number[y] == null ? null : Integer.valueOf(now.number[y] + z);
                now.least[x] = low(now.least[y], z);
                for (int v = 0; v < values; v++) {
                    now.highest[x][v] = high(now.highest[y][v], z);
                }
                break;
            case 2:
                nothing(now, x);
                break;
            case 3:
                nothing(now, x);
                now.least[x] = 0;
                if (now.variable[y] != 0) {
                    now.there[now.variable[y]] = true;
                    now.highest[x][now.variable[y]] = 0;
                }
                break;
            case 4:
                index(now, y, z);
                nothing(now, x);
                break;
            case 5:
                index(now, x, y);
                break;
            case 6:
                make(k, x, y, now);
                break;
            case 7:
                now.variable[x] = 0;
                break;
            case 8:
                now.variable[x] = now.variable[y];
                break;
            default:
                break;
        }
    }

    private void make(int k, int x, int y, Known now) {
        int v = valueOf[k][4];
        knownLength[v] = now.number[y];
        now.least[y] = Math.max(now.least[y], 0);
        now.variable[x] = v;
        now.there[v] = true;
        for (int n = 0; n < 10; n++) {
            now.highest[n][v] = now.number[n] == null ? FREE : constantAgainst(now.number[n], v);
        }
        now.highest[y][v] = 0;
    }

    int leastBefore(int k, int n) {
        return before[k].least[n] == NO_LEAST ? FREE : before[k].least[n];
    }

    int highestBefore(int k, int n, int r) {
        return before[k].highest[n][before[k].variable[r]];
    }

    int needlessOf(int k) {
        int[] s = code.get(k);
        if (s[0] < 3 || s[0] > 5) {
            return 0;
        }
        int r = s[0] == 5 ? s[1] : s[2];
        int index = s[0] == 5 ? s[2] : s[3];
        int sum = before[k].there[before[k].variable[r]] ? 1 : 0;
        if (s[0] != 3) {
            sum += before[k].least[index] >= 0 ? 2 : 0;
            sum += highestBefore(k, index, r) <= -1 ? 4 : 0;
        }
        return sum;
    }

    // The run, with every check made.

    final long[] n = new long[10];
    final int[][] r = new int[4][];
    final List<Integer> outputs = new ArrayList<>();
    int at;
    int stop;
    int done;
    int made;
    int leftOut;
    int arrays;

    boolean goes() {
        return stop == 0 && at < code.size();
    }

    void step(List<Integer> inputs) {
        int[] s = code.get(at);
        int x = s[1];
        int y = s[2];
        int z = s[3];
        int next = at + 1;
        if (s[0] == 0) {
            n[x] = y;
        } else if (s[0] == 1) {
            long sum = n[y] + z;
            if (overflows(sum)) {
                return;
            }
            n[x] = sum;
        } else if (s[0] == 2) {
            n[x] = inputs.isEmpty() ? 0 : inputs.remove(0);
        } else if (s[0] == 3) {
            if (!check(1, r[y] != null)) {
                return;
            }
            n[x] = r[y].length;
        } else if (s[0] == 4 || s[0] == 5) {
            int[] a = r[s[0] == 4 ? y : x];
            long i = n[s[0] == 4 ? z : y];
            if (!check(1, a != null) || !check(2, i >= 0) || !check(4, i < a.length)) {
                return;
            }
            if (s[0] == 4) {
                n[x] = a[(int) i];
            } else {
                a[(int) i] = (int) n[z];
            }
        } else if (s[0] == 6) {
            if (n[y] < 0 || n[y] > 40 || arrays >= 40) {
                stop = 5;
                return;
            }
            r[x] = new int[(int) n[y]];
            arrays++;
        } else if (s[0] == 7) {
            r[x] = null;
        } else if (s[0] == 8) {
            r[x] = r[y];
        } else if (s[0] == 9 || s[0] == 12) {
            long sum = (y == 10 ? 0 : n[y]) + z;
            if (overflows(sum)) {
                return;
            }
            if (n[x] >= sum) {
                next = (s[0] == 9 && elseOf[at] >= 0 ? elseOf[at] : endOf[at]) + 1;
            }
        } else if (s[0] == 10) {
            next = endOf[headOf[at]] + 1;
        } else if (s[0] == 11) {
            next = code.get(headOf[at])[0] == 12 ? headOf[at] : at + 1;
        } else {
            outputs.add(0, (int) n[x]);
        }
        at = next;
        done++;
    }

    private boolean overflows(long sum) {
        if (sum < -1000000 || sum > 1000000) {
            stop = 4;
            return true;
        }
        return false;
    }

    private boolean check(int bit, boolean holds) {
        boolean needless = (needlessOf(at) & bit) != 0;
        if (needless && !holds) {
            throw new AssertionError("a needless check fails: the rules would be unsound");
        }
        if (needless) {
            leftOut++;
        } else {
            made++;
        }
        if (!holds) {
            stop = bit == 4 ? 3 : bit;
        }
        return holds;
    }
}
