import java.util.ArrayList;
import java.util.Arrays;
import java.util.List;
import java.util.Random;
import java.util.Set;
import java.util.TreeSet;

/**
 * Objects that get all calls in any order with any arguments, 512 each: every answer and every
 * throw must be the one that is due by a plain account of the object's life. What is known and how
 * a run goes is Model's.
 */
public final class AnyCallsTest extends Expect {
    /** A start, and up to 8 ENDs that are told ahead of it. */
    private static final int DEAREST = 9;
    private static final int[] EDGES = {LEAST_INT, -1000001, -1000000, -201, -101, -100, -2, -1, 0, 1, 2, 3, 4, 5, 6, 7, 9, 10, 11,
        13, 14, 15, 16, 39, 40, 41, 63, 64, 65, 100, 101, 1999, 2000, 2001, 1000000, 1000001, FREE, GREATEST_INT};
    /** Of each sort the least and the greatest x, y and z. */
    private static final int[][] RANGES = {
        {0, 9, -100, 100, 0, 0}, {0, 9, 0, 9, -100, 100}, {0, 9, 0, 0, 0, 0}, {0, 9, 0, 3, 0, 0}, {0, 9, 0, 3, 0, 9},
        {0, 3, 0, 9, 0, 9}, {0, 3, 0, 9, 0, 0}, {0, 3, 0, 0, 0, 0}, {0, 3, 0, 3, 0, 0}, {0, 9, 0, 10, -100, 100},
        {0, 0, 0, 0, 0, 0}, {0, 0, 0, 0, 0, 0}, {0, 9, 0, 10, -100, 100}, {0, 9, 0, 0, 0, 0}};
    /** How often put, clear, give, start, the three of what is known, run, and the five of the run are called. */
    private static final int[][] MANNERS = {{60, 1, 5, 3, 6, 8, 17}, {30, 1, 5, 8, 10, 20, 26}, {88, 1, 2, 3, 2, 2, 2},
        {15, 0, 50, 5, 5, 15, 10}};

    private final Random random;
    private final Counted object = new Counted();
    private final List<int[]> code = new ArrayList<>();
    /** The sorts of the ifs and whiles that have no END yet; an if that has an ELSE stands as ELSE. */
    private final List<Integer> open = new ArrayList<>();
    private final List<Integer> inputs = new ArrayList<>();
    private Model run = null;
    private final Set<String> seen;

    private AnyCallsTest(long seed, Set<String> seen) {
        random = new Random(seed);
        this.seen = seen;
    }

    private int any() {
        return EDGES[random.nextInt(EDGES.length)];
    }

    /** Mostly one of 0 .. bound - 1 or just beyond. */
    private int near(int bound) {
        return random.nextInt(12) == 0 ? any() : random.nextInt(bound + 2) - (random.nextInt(8) == 0 ? 1 : 0);
    }

    private void due(String call, String want, Call made) {
        dueThrow(call, want, made);
        seen.add(call.substring(0, call.indexOf('(')) + (want.startsWith("answer") ? "" : " " + want));
        if (want.equals("answer " + NONE) || want.equals("answer " + FREE)) {
            seen.add(call.substring(0, call.indexOf('(')) + " " + want);
        }
    }

    private static String answer(int v) {
        return "answer " + v;
    }

    private static boolean fits(int[] s) {
        if (s[0] < 0 || s[0] >= RANGES.length) {
            return false;
        }
        for (int i = 0; i < 3; i++) {
            if (s[i + 1] < RANGES[s[0]][2 * i] || s[i + 1] > RANGES[s[0]][2 * i + 1]) {
                return false;
            }
        }
        return true;
    }

    private boolean belongs(int sort) {
        int innermost = open.isEmpty() ? NONE : open.get(open.size() - 1);
        return sort == ELSE ? innermost == IF : sort != END || innermost != NONE;
    }

    private int[] someStatement() {
        int sort = random.nextInt(30) == 0 ? any() : random.nextInt(14);
        if (random.nextInt(3) == 0) {
            sort = random.nextInt(2) == 0 ? END : NEW;
        }
        int[] s = {sort, 0, 0, 0};
        for (int i = 0; i < 3 && sort >= 0 && sort < RANGES.length; i++) {
            int from = RANGES[sort][2 * i];
            int to = RANGES[sort][2 * i + 1];
            boolean constant = from < 0;
            s[i + 1] = constant ? random.nextInt(14) - 4 : from + random.nextInt(Math.min(to - from, 3) + 1);
            if (random.nextInt(10) == 0) {
                s[i + 1] = from + random.nextInt(to - from + 1);
            }
        }
        if (random.nextInt(15) == 0) {
            s[1 + random.nextInt(3)] = any();
        }
        return s;
    }

    private String putInto(int[] s) {
        if (!fits(s) || !belongs(s[0])) {
            return ARGUMENT;
        }
        run = null;
        boolean opens = s[0] == IF || s[0] == WHILE;
        if (code.size() == 64 || (opens && open.size() == 8)) {
            return answer(NONE);
        }
        code.add(s);
        if (opens) {
            open.add(s[0]);
        } else if (s[0] == ELSE) {
            open.set(open.size() - 1, ELSE);
        } else if (s[0] == END) {
            open.remove(open.size() - 1);
        }
        return answer(code.size());
    }

    private String giveTo(int v) {
        if (v < -1000000 || v > 1000000) {
            return ARGUMENT;
        }
        if (inputs.size() == 64) {
            return answer(NONE);
        }
        inputs.add(v);
        return answer(inputs.size());
    }

    private String startDue() {
        if (!open.isEmpty()) {
            return STATE;
        }
        run = new Model(code);
        int sum = 0;
        for (int k = 0; k < code.size(); k++) {
            sum += Integer.bitCount(run.needlessOf(k));
        }
        return answer(sum);
    }

    private static boolean within(int i, int bound) {
        return i >= 0 && i < bound;
    }

    private void askKnown() {
        int k = near(Math.max(code.size(), 1));
        int n = near(10);
        int r = near(4);
        boolean statement = within(k, code.size());
        String wrong = run == null ? STATE : INDEX;
        boolean told = run != null && statement;
        switch (random.nextInt(3)) {
            case 0:
                due("needless(" + k + ")", told ? answer(run.needlessOf(k)) : wrong, () -> object.needless(k));
                break;
            case 1:
                told = told && within(n, 10);
                due("least(" + k + ", " + n + ")", told ? answer(run.leastBefore(k, n)) : wrong, () -> object.least(k, n));
                break;
            default:
                told = told && within(n, 10) && within(r, 4);
                due("highest(" + k + ", " + n + ", " + r + ")", told ? answer(run.highestBefore(k, n, r)) : wrong,
                        () -> object.highest(k, n, r));
        }
    }

    private String runDue(int n) {
        if (run == null || !run.goes()) {
            return STATE;
        }
        if (n < 1 || n > 2000) {
            return ARGUMENT;
        }
        int before = run.done;
        for (int i = 0; i < n && run.goes(); i++) {
            run.step(inputs);
        }
        return answer(run.done - before);
    }

    private int stateDue(int what) {
        if (run == null || !within(what, 7)) {
            return NONE;
        }
        int stands = run.stop != 0 ? run.stop + 1 : run.goes() ? 0 : 1;
        return new int[] {run.at, stands, run.done, run.made, run.leftOut, run.outputs.size(), run.arrays}[what];
    }

    private int lengthDue(int r) {
        return run == null || !within(r, 4) || run.r[r] == null ? NONE : run.r[r].length;
    }

    private void askRun() {
        int i = near(16);
        int n = near(10);
        int r = near(4);
        switch (random.nextInt(5)) {
            case 0:
                boolean kept = run != null && within(i, 16) && i < run.outputs.size();
                due("output(" + i + ")", answer(kept ? run.outputs.get(i) : FREE), () -> object.output(i));
                break;
            case 1:
                due("state(" + n + ")", answer(stateDue(n)), () -> object.state(n));
                break;
            case 2:
                due("number(" + n + ")", answer(run != null && within(n, 10) ? (int) run.n[n] : FREE), () -> object.number(n));
                break;
            case 3:
                due("length(" + r + ")", answer(lengthDue(r)), () -> object.length(r));
                break;
            default:
                due("place(" + r + ", " + i + ")", answer(within(i, lengthDue(r)) ? run.r[r][i] : FREE), () -> object.place(r, i));
        }
    }

    private void call(int which) {
        switch (which) {
            case 0:
                int[] s = someStatement();
                due("put(" + Arrays.toString(s) + ")", putInto(s), () -> object.put(s));
                break;
            case 1:
                due("clear()", answer(code.size()), object::clear);
                code.clear();
                open.clear();
                inputs.clear();
                run = null;
                break;
            case 2:
                int v = random.nextInt(4) == 0 ? any() : random.nextInt(12) - 1;
                due("give(" + v + ")", giveTo(v), () -> object.give(v));
                break;
            case 3:
                closeAll();
                due("start()", startDue(), object::start);
                break;
            case 4:
                askKnown();
                break;
            case 5:
                int n = random.nextInt(3) == 0 ? any() : 1 + random.nextInt(30);
                due("run(" + n + ")", runDue(n), () -> object.run(n));
                break;
            default:
                askRun();
        }
    }

    /** Mostly the ENDs that are missing are told, as few runs would begin else. */
    private void closeAll() {
        boolean leave = random.nextInt(4) == 0;
        for (int i = 0; i < 8 && !open.isEmpty() && !leave; i++) {
            int[] end = {END, 0, 0, 0};
            due("put(END)", putInto(end), () -> object.put(end));
        }
    }

    private void live(int[] manner) {
        int all = Arrays.stream(manner).sum();
        while (object.left() >= DEAREST) {
            int at = random.nextInt(all);
            int which = 0;
            while (at >= manner[which]) {
                at -= manner[which];
                which++;
            }
            call(which);
        }
    }

    private static void dueSeen(Set<String> seen) {
        sentence("every answer comes up, else the comparison says too little");
        for (String what : new String[] {"put", "put answer -1", "put " + ARGUMENT, "clear", "give", "give answer -1", "give " + ARGUMENT,
            "start", "start " + STATE, "needless", "needless " + STATE, "needless " + INDEX, "least", "least answer 1000000000",
            "least " + STATE, "least " + INDEX, "highest", "highest answer 1000000000", "highest " + STATE, "highest " + INDEX, "run",
            "run " + STATE, "run " + ARGUMENT, "output", "output answer 1000000000", "state", "state answer -1", "number",
            "number answer 1000000000", "length", "length answer -1", "place", "place answer 1000000000"}) {
            if (!seen.contains(what)) {
                fail("never seen: " + what);
            }
        }
    }

    public static void main(String[] args) {
        int objects = args.length > 0 ? Integer.parseInt(args[0]) : 300;
        long seed = args.length > 1 ? Long.parseLong(args[1]) : 8;
        Set<String> seen = new TreeSet<>();
        for (int i = 0; i < objects; i++) {
            sentence("object " + i + " of seed " + seed);
            new AnyCallsTest(seed * 1000003 + i, seen).live(MANNERS[i % MANNERS.length]);
        }
        dueSeen(seen);
        finish("AnyCallsTest");
    }
}
