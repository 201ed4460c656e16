import java.util.ArrayList;
import java.util.Arrays;
import java.util.List;

/** Many programs, made by a fixed row of numbers: the class and the model must agree in everything. */
public final class ModelTest {
    /** The dearest questions at the end: 17 states and numbers, 17 outputs, 4 arrays of 40 places. */
    private static final int CALLS_AT_END = 17 + 17 + 4 + 4 * 42;

    private static long seed;
    private static int programs = 0;
    /** Whether the program being made has many constants near -100 and 100, so that bounds come to -200 and 200. */
    private static boolean wide = false;
    private static final int[] stops = new int[7];

    private static int below(int bound) {
        seed = seed * 6364136223846793005L + 1442695040888963407L;
        return (int) ((seed >>> 33) % bound);
    }

    private static int constant() {
        int kind = below(10);
        if (wide && kind < 5) {
            return (below(2) == 0 ? 1 : -1) * (100 - below(3));
        }
        if (kind < 6) {
            return below(9) - 3;
        }
        return kind < 8 ? below(41) - 10 : below(201) - 100;
    }

    private static int[] plain(int numbers, int arrays) {
        int x = below(numbers);
        int y = below(numbers);
        int r = below(arrays);
        switch (below(14)) {
            case 0:
            case 1:
                return new int[] {0, x, constant(), 0};
            case 2:
            case 3:
                return new int[] {1, x, below(2) == 0 ? x : y, constant()};
            case 4:
                return new int[] {2, x, 0, 0};
            case 5:
                return new int[] {3, x, r, 0};
            case 6:
            case 7:
                return new int[] {4, x, r, y};
            case 8:
            case 9:
                return new int[] {5, r, x, y};
            case 10:
                return new int[] {6, r, x, 0};
            case 11:
                return below(3) == 0 ? new int[] {7, r, 0, 0} : new int[] {6, r, x, 0};
            case 12:
                return new int[] {8, r, below(arrays), 0};
            default:
                return new int[] {13, x, 0, 0};
        }
    }

    private static List<int[]> randomProgram() {
        int numbers = below(4) == 0 ? 10 : 2 + below(4);
        int arrays = below(4) == 0 ? 4 : 1 + below(2);
        int size = 4 + below(below(3) == 0 ? 20 : 61);
        wide = below(4) == 0;
        List<int[]> code = new ArrayList<>();
        List<int[]> open = new ArrayList<>();
        // Without arrays at the beginning most runs would stop at once by null.
        for (int r = 0; r < arrays && below(8) > 0 && code.size() + 4 < size; r++) {
            int n = below(numbers);
            code.add(below(4) == 0 ? new int[] {2, n, 0, 0} : new int[] {0, n, below(12), 0});
            code.add(new int[] {6, r, n, 0});
        }
        while (code.size() + open.size() < size) {
            int kind = below(10);
            int depth = open.size();
            if (below(12) == 0 && depth < 8 && code.size() + depth + 9 <= size) {
                addWalk(code, numbers, arrays);
            } else if (kind < 2 && depth < 8 && code.size() + depth + 2 <= size) {
                int sort = below(2) == 0 ? 9 : 12;
                int y = below(5) == 0 ? 10 : below(numbers);
                code.add(new int[] {sort, below(numbers), y, constant()});
                open.add(new int[] {sort, 0});
            } else if (kind == 2 && depth > 0 && open.get(depth - 1)[0] == 9 && open.get(depth - 1)[1] == 0) {
                code.add(new int[] {10, 0, 0, 0});
                open.get(depth - 1)[1] = 1;
            } else if (kind == 3 && depth > 0) {
                code.add(new int[] {11, 0, 0, 0});
                open.remove(depth - 1);
            } else {
                code.add(plain(numbers, arrays));
            }
        }
        while (!open.isEmpty()) {
            code.add(new int[] {11, 0, 0, 0});
            open.remove(open.size() - 1);
        }
        return code;
    }

    /** A while over the places of an array, with one statement of any sort within. */
    private static void addWalk(List<int[]> code, int numbers, int arrays) {
        int r = below(arrays);
        int end = below(numbers);
        int i = below(numbers);
        code.add(new int[] {3, end, r, 0});
        code.add(new int[] {0, i, below(3) - 1, 0});
        code.add(new int[] {12, i, end, below(3) - 1});
        code.add(below(2) == 0 ? new int[] {4, below(numbers), r, i} : new int[] {5, r, i, below(numbers)});
        code.add(plain(numbers, arrays));
        code.add(new int[] {1, i, i, 1 + below(2)});
        code.add(new int[] {11, 0, 0, 0});
    }

    private static String text(List<int[]> code) {
        StringBuilder b = new StringBuilder();
        for (int[] s : code) {
            b.append(Arrays.toString(s)).append(' ');
        }
        return b.toString();
    }

    /** All that is known, asked of as many objects as it takes to keep to 512 calls of each. */
    private static void compareKnown(List<int[]> code, Model m, String name) {
        Counted c = null;
        for (int k = 0; k < code.size(); k++) {
            if (c == null || c.left() < 51) {
                c = told(code);
            }
            Expect.due(name + " needless(" + k + ")", c.needless(k), m.needlessOf(k));
            for (int n = 0; n < 10; n++) {
                compareKnown(c, m, name, k, n);
            }
        }
    }

    private static Counted told(List<int[]> code) {
        Counted c = new Counted();
        for (int[] s : code) {
            c.put(s);
        }
        c.start();
        return c;
    }

    private static void compareKnown(Counted c, Model m, String name, int k, int n) {
        Expect.due(name + " least(" + k + ", " + n + ")", c.least(k, n), m.leastBefore(k, n));
        for (int r = 0; r < 4; r++) {
            Expect.due(name + " highest(" + k + ", " + n + ", " + r + ")", c.highest(k, n, r), m.highestBefore(k, n, r));
        }
    }

    private static int countNeedless(Model m) {
        int sum = 0;
        for (int k = 0; k < m.code.size(); k++) {
            sum += Integer.bitCount(m.needlessOf(k));
        }
        return sum;
    }

    private static void compareNumbers(Counted c, Model m, String name) {
        int want = m.stop != 0 ? m.stop + 1 : m.at == m.code.size() ? 1 : 0;
        int[] states = {m.at, want, m.done, m.made, m.leftOut, m.outputs.size(), m.arrays};
        for (int i = 0; i < states.length; i++) {
            Expect.due(name + " state(" + i + ")", c.state(i), states[i]);
        }
        for (int n = 0; n < 10; n++) {
            Expect.due(name + " number(" + n + ")", c.number(n), (int) m.n[n]);
        }
    }

    private static void compareArraysAndOutputs(Counted c, Model m, String name) {
        for (int k = 0; k <= 16; k++) {
            int due = k > 15 || k >= m.outputs.size() ? Expect.FREE : m.outputs.get(k);
            Expect.due(name + " output(" + k + ")", c.output(k), due);
        }
        for (int r = 0; r < 4; r++) {
            int length = m.r[r] == null ? -1 : m.r[r].length;
            Expect.due(name + " length(" + r + ")", c.length(r), length);
            for (int i = -1; i <= Math.max(length, 0); i++) {
                int due = i < 0 || i >= length ? Expect.FREE : m.r[r][i];
                Expect.due(name + " place(" + r + ", " + i + ")", c.place(r, i), due);
            }
        }
    }

    private static void giveSome(Counted c, List<Integer> inputs) {
        int some = below(8);
        for (int i = 0; i < some && inputs.size() < 64; i++) {
            int v = below(10) == 0 ? (below(2) == 0 ? 1 : -1) * (1000000 - below(3)) : below(12) - 2;
            inputs.add(v);
            Expect.due("give", c.give(v), inputs.size());
        }
    }

    private static void compare(Counted c, List<Integer> inputs, List<int[]> code, String name) {
        for (int k = 0; k < code.size(); k++) {
            Expect.due(name + " put", c.put(code.get(k)), k + 1);
        }
        Model m = new Model(code);
        giveSome(c, inputs);
        Expect.due(name + " start()", c.start(), countNeedless(m));
        for (int i = 0; i < 8; i++) {
            compareKnown(c, m, name, below(code.size()), below(10));
        }
        while (m.goes() && m.done < 6000 && c.left() >= CALLS_AT_END + 8) {
            int most = below(3) == 0 ? 1 + below(20) : 2000;
            int before = m.done;
            for (int i = 0; i < most && m.goes(); i++) {
                m.step(inputs);
            }
            Expect.due(name + " run(" + most + ")", c.run(most), m.done - before);
            if (c.left() >= CALLS_AT_END + 17 + 8) {
                compareNumbers(c, m, name);
                giveSome(c, inputs);
            }
        }
        compareNumbers(c, m, name);
        compareArraysAndOutputs(c, m, name);
        stops[m.stop != 0 ? m.stop + 1 : m.goes() ? 0 : 1]++;
        compareKnown(code, m, name);
    }

    /** What one program may need: its statements, inputs, start(), some of what is known, two runs and the end. */
    private static int callsFor(List<int[]> code) {
        return code.size() + 8 + 1 + 8 * 5 + 2 * (1 + 17 + 8) + CALLS_AT_END;
    }

    public static void main(String[] args) {
        int many = args.length > 0 ? Integer.parseInt(args[0]) : 2000;
        seed = args.length > 1 ? Long.parseLong(args[1]) : 20261115L;
        Counted c = new Counted();
        List<Integer> inputs = new ArrayList<>();
        List<int[]> code = new ArrayList<>();
        int again = 0;
        for (programs = 0; programs < many; programs++) {
            int had = code.size();
            code = randomProgram();
            String name = "program " + programs;
            // One object for several programs: nothing of an earlier one may be left over.
            if (programs > 0 && c.left() > callsFor(code)) {
                Expect.due(name + " clear()", c.clear(), had);
                again++;
            } else {
                c = new Counted();
            }
            inputs.clear();
            try {
                compare(c, inputs, code, name);
            } catch (RuntimeException | AssertionError e) {
                Expect.fail(name + " threw " + e + ": " + text(code));
            }
        }
        for (int i = 0; i < stops.length; i++) {
            if (stops[i] == 0 && many >= 2000) {
                Expect.fail("no program ended with state " + i + ": the comparison says too little");
            }
        }
        System.out.println("ends by state: " + Arrays.toString(stops) + ", in a cleared object: " + again);
        Expect.finish("ModelTest");
    }
}
