import java.util.ArrayList;
import java.util.Arrays;
import java.util.List;

/** Many programs, made by a fixed row of numbers: the class and the model must agree in everything. */
public final class ModelTest {
    private static long seed;
    private static int programs = 0;
    private static final int[] stops = new int[7];

    private static int below(int bound) {
        seed = seed * 6364136223846793005L + 1442695040888963407L;
        return (int) ((seed >>> 33) % bound);
    }

    private static int constant() {
        int kind = below(10);
        if (kind < 6) {
            return below(9) - 3;
        }
        return kind < 8 ? below(41) - 10 : below(201) - 100;
    }

    private static int[] plain(int numbers, int arrays) {
        int x = below(numbers);
        int y = below(numbers);
        int r = below(arrays);
        switch (below(14)) {
            case 0:
            case 1:
                return new int[] {0, x, constant(), 0};
            case 2:
            case 3:
                return new int[] {1, x, below(2) == 0 ? x : y, constant()};
            case 4:
                return new int[] {2, x, 0, 0};
            case 5:
                return new int[] {3, x, r, 0};
            case 6:
            case 7:
                return new int[] {4, x, r, y};
            case 8:
            case 9:
                return new int[] {5, r, x, y};
            case 10:
                return new int[] {6, r, x, 0};
            case 11:
                return below(3) == 0 ? new int[] {7, r, 0, 0} : new int[] {6, r, x, 0};
            case 12:
                return new int[] {8, r, below(arrays), 0};
            default:
                return new int[] {13, x, 0, 0};
        }
    }

    private static List<int[]> randomProgram() {
        int numbers = below(4) == 0 ? 10 : 2 + below(4);
        int arrays = below(4) == 0 ? 4 : 1 + below(2);
        int size = 4 + below(61);
        List<int[]> code = new ArrayList<>();
        List<int[]> open = new ArrayList<>();
        // Without arrays at the beginning most runs would stop at once by null.
        for (int r = 0; r < arrays && below(8) > 0 && code.size() + 4 < size; r++) {
            int n = below(numbers);
            code.add(below(4) == 0 ? new int[] {2, n, 0, 0} : new int[] {0, n, below(12), 0});
            code.add(new int[] {6, r, n, 0});
        }
        while (code.size() + open.size() < size) {
            int kind = below(10);
            int depth = open.size();
            if (below(12) == 0 && depth < 8 && code.size() + depth + 9 <= size) {
                addWalk(code, numbers, arrays);
            } else if (kind < 2 && depth < 8 && code.size() + depth + 2 <= size) {
                int sort = below(2) == 0 ? 9 : 12;
                int y = below(5) == 0 ? 10 : below(numbers);
                code.add(new int[] {sort, below(numbers), y, constant()});
                open.add(new int[] {sort, 0});
            } else if (kind == 2 && depth > 0 && open.get(depth - 1)[0] == 9 && open.get(depth - 1)[1] == 0) {
                code.add(new int[] {10, 0, 0, 0});
                open.get(depth - 1)[1] = 1;
            } else if (kind == 3 && depth > 0) {
                code.add(new int[] {11, 0, 0, 0});
                open.remove(depth - 1);
            } else {
                code.add(plain(numbers, arrays));
            }
        }
        while (!open.isEmpty()) {
            code.add(new int[] {11, 0, 0, 0});
            open.remove(open.size() - 1);
        }
        return code;
    }

    /** A while over the places of an array, with one statement of any sort within. */
    private static void addWalk(List<int[]> code, int numbers, int arrays) {
        int r = below(arrays);
        int end = below(numbers);
        int i = below(numbers);
        code.add(new int[] {3, end, r, 0});
        code.add(new int[] {0, i, below(3) - 1, 0});
        code.add(new int[] {12, i, end, below(3) - 1});
        code.add(below(2) == 0 ? new int[] {4, below(numbers), r, i} : new int[] {5, r, i, below(numbers)});
        code.add(plain(numbers, arrays));
        code.add(new int[] {1, i, i, 1 + below(2)});
        code.add(new int[] {11, 0, 0, 0});
    }

    private static String text(List<int[]> code) {
        StringBuilder b = new StringBuilder();
        for (int[] s : code) {
            b.append(Arrays.toString(s)).append(' ');
        }
        return b.toString();
    }

    private static void compareKnown(CheckSaver c, Model m, String name) {
        int sum = 0;
        for (int k = 0; k < m.code.size(); k++) {
            sum += Integer.bitCount(m.needlessOf(k));
            Expect.due(name + " needless(" + k + ")", c.needless(k), m.needlessOf(k));
            for (int n = 0; n < 10; n++) {
                Expect.due(name + " least(" + k + ", " + n + ")", c.least(k, n), m.leastBefore(k, n));
                for (int r = 0; r < 4; r++) {
                    Expect.due(name + " highest(" + k + ", " + n + ", " + r + ")", c.highest(k, n, r),
                            m.highestBefore(k, n, r));
                }
            }
        }
        Expect.due(name + " start()", c.start(), sum);
    }

    private static void compareRun(CheckSaver c, Model m, String name) {
        int want = m.stop != 0 ? m.stop + 1 : m.at == m.code.size() ? 1 : 0;
        int[] states = {m.at, want, m.done, m.made, m.leftOut, m.outputs.size(), m.arrays, -1};
        for (int i = 0; i < states.length; i++) {
            Expect.due(name + " state(" + i + ")", c.state(i), states[i]);
        }
        for (int n = 0; n < 10; n++) {
            Expect.due(name + " number(" + n + ")", c.number(n), (int) m.n[n]);
        }
        for (int k = -1; k < 18; k++) {
            int due = k < 0 || k > 15 || k >= m.outputs.size() ? Expect.FREE : m.outputs.get(k);
            Expect.due(name + " output(" + k + ")", c.output(k), due);
        }
        for (int r = 0; r < 4; r++) {
            Expect.due(name + " length(" + r + ")", c.length(r), m.r[r] == null ? -1 : m.r[r].length);
            for (int i = -1; i < 42; i++) {
                int due = m.r[r] == null || i < 0 || i >= m.r[r].length ? Expect.FREE : m.r[r][i];
                Expect.due(name + " place(" + r + ", " + i + ")", c.place(r, i), due);
            }
        }
    }

    private static void giveSome(CheckSaver c, List<Integer> inputs) {
        int some = below(8);
        for (int i = 0; i < some && inputs.size() < 64; i++) {
            int v = below(10) == 0 ? (below(2) == 0 ? 1 : -1) * (1000000 - below(3)) : below(12) - 2;
            inputs.add(v);
            Expect.due("give", c.give(v), inputs.size());
        }
    }

    private static void compare(CheckSaver c, List<Integer> inputs, List<int[]> code, String name) {
        for (int k = 0; k < code.size(); k++) {
            int[] s = code.get(k);
            Expect.due(name + " put", c.put(s[0], s[1], s[2], s[3]), k + 1);
        }
        Model m = new Model(code);
        giveSome(c, inputs);
        c.start();
        compareKnown(c, m, name);
        while (m.goes() && m.done < 6000) {
            int most = below(3) == 0 ? 1 + below(20) : 2000;
            int before = m.done;
            for (int i = 0; i < most && m.goes(); i++) {
                m.step(inputs);
            }
            Expect.due(name + " run(" + most + ")", c.run(most), m.done - before);
            compareRun(c, m, name);
            giveSome(c, inputs);
        }
        stops[m.stop != 0 ? m.stop + 1 : m.goes() ? 0 : 1]++;
    }

    public static void main(String[] args) {
        int many = args.length > 0 ? Integer.parseInt(args[0]) : 2000;
        seed = args.length > 1 ? Long.parseLong(args[1]) : 20261115L;
        CheckSaver c = new CheckSaver();
        List<Integer> inputs = new ArrayList<>();
        for (programs = 0; programs < many; programs++) {
            List<int[]> code = randomProgram();
            String name = "program " + programs;
            try {
                compare(c, inputs, code, name);
            } catch (RuntimeException | AssertionError e) {
                Expect.fail(name + " threw " + e + ": " + text(code));
            }
            // One object for several programs: nothing of an earlier one may be left over.
            if (below(3) == 0) {
                c = new CheckSaver();
            } else {
                Expect.due(name + " clear()", c.clear(), code.size());
            }
            inputs.clear();
        }
        for (int i = 0; i < stops.length; i++) {
            if (stops[i] == 0 && many >= 2000) {
                Expect.fail("no program ended with state " + i + ": the comparison says too little");
            }
        }
        System.out.println("ends by state: " + Arrays.toString(stops));
        Expect.finish("ModelTest");
    }
}
