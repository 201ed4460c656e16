import java.io.IOException;
import java.io.UncheckedIOException;
import java.lang.reflect.InvocationTargetException;
import java.lang.reflect.Method;
import java.lang.reflect.Modifier;
import java.nio.file.DirectoryStream;
import java.nio.file.Files;
import java.nio.file.Path;
import java.util.ArrayList;
import java.util.List;
import java.util.Map;
import java.util.Set;
import java.util.TreeMap;
import java.util.TreeSet;
import java.util.regex.Matcher;
import java.util.regex.Pattern;

/** What README.md shows of the class and of its tests, compared with both. It is run from the root of the project. */
public final class ReadmeTest extends Expect {
    private static final Path README = Path.of("README.md");
    private static final Path TESTS = Path.of("src/test/java");
    private static final Pattern MADE = Pattern.compile("CheckSaver (\\w+) = new CheckSaver\\(\\);");
    private static final Pattern CALL = Pattern.compile("(\\w+)\\.(\\w+)\\(([-0-9, ]*)\\);\\s*// (throws \\w+|[-\\w]+)(:.*)?");
    private static final Pattern CALL_TOLD = Pattern.compile("`(\\w+)\\(([\\w, ]*)\\)`");
    private static final Pattern RANGE = Pattern.compile("(-?\\d+)(?: \\.\\. (-?\\d+))?");
    private static final Pattern TEST_TOLD = Pattern.compile("`(\\w+Test)`|java -cp /tmp/classes (\\w+)");

    private static int[] numbersOf(String list) {
        if (list.isBlank()) {
            return new int[0];
        }
        String[] words = list.split(",");
        int[] numbers = new int[words.length];
        for (int i = 0; i < words.length; i++) {
            numbers[i] = Integer.parseInt(words[i].trim());
        }
        return numbers;
    }

    private static Method methodOf(String name) {
        for (Method m : CheckSaver.class.getDeclaredMethods()) {
            if (m.getName().equals(name) && Modifier.isPublic(m.getModifiers())) {
                return m;
            }
        }
        return null;
    }

    private static String answerOf(CheckSaver c, String name, int[] arguments) {
        Method m = methodOf(name);
        if (c == null || m == null || m.getParameterCount() != arguments.length) {
            return "no such call";
        }
        Object[] boxed = new Object[arguments.length];
        for (int i = 0; i < boxed.length; i++) {
            boxed[i] = arguments[i];
        }
        try {
            return m.invoke(c, boxed).toString();
        } catch (InvocationTargetException e) {
            return "throws " + e.getCause().getClass().getSimpleName();
        } catch (IllegalAccessException e) {
            return "no access";
        }
    }

    private static String plain(String answer) {
        return answer.equals("FREE") ? "" + FREE : answer.equals("NONE") ? "" + NONE : answer;
    }

    private static void dueLine(String line, Map<String, CheckSaver> objects) {
        Matcher made = MADE.matcher(line);
        if (made.matches()) {
            objects.put(made.group(1), new CheckSaver());
            return;
        }
        Matcher call = CALL.matcher(line);
        if (!call.matches()) {
            fail("no call with its answer: " + line);
            return;
        }
        String got = answerOf(objects.get(call.group(1)), call.group(2), numbersOf(call.group(3)));
        if (!got.equals(plain(call.group(4)))) {
            fail("answered " + got + ": " + line);
        }
    }

    private static void examples(List<String> lines) {
        sentence("What README.md shows of the use of the class");
        Map<String, CheckSaver> objects = new TreeMap<>();
        boolean within = false;
        int calls = 0;
        for (String line : lines) {
            if (line.startsWith("```")) {
                within = line.equals("```java");
            } else if (within) {
                dueLine(line, objects);
                calls++;
            }
        }
        due("some calls are shown", calls > 20 ? 1 : 0, 1);
    }

    /** The cells of the rows of tables with so many columns, without heads and rules. */
    private static List<String[]> rowsOf(List<String> lines, int columns) {
        List<String[]> rows = new ArrayList<>();
        for (String line : lines) {
            String[] cells = line.split("\\|", -1);
            if (line.startsWith("|") && cells.length == columns + 2 && !line.startsWith("|-")
                    && !line.startsWith("| sort") && !line.startsWith("| call")) {
                rows.add(cells);
            }
        }
        return rows;
    }

    private static int[] rangeOf(String cell) {
        Matcher range = RANGE.matcher(cell.trim());
        if (!range.matches()) {
            fail("no range: " + cell);
            return new int[2];
        }
        int from = Integer.parseInt(range.group(1));
        return new int[] {from, range.group(2) == null ? from : Integer.parseInt(range.group(2))};
    }

    private static String putInto(int sort, int x, int y, int z) {
        CheckSaver c = new CheckSaver();
        if (sort == ELSE || sort == END) {
            c.put(IF, 0, 0, 0);
        }
        return answerOf(c, "put", new int[] {sort, x, y, z});
    }

    private static void dueRanges(int sort, int[][] ranges) {
        int[] first = {ranges[0][0], ranges[1][0], ranges[2][0]};
        for (int i = 0; i < 3; i++) {
            int[] values = {ranges[i][0], ranges[i][1], ranges[i][0] - 1, ranges[i][1] + 1};
            for (int j = 0; j < values.length; j++) {
                int[] v = first.clone();
                v[i] = values[j];
                boolean refused = putInto(sort, v[0], v[1], v[2]).equals("throws " + ARGUMENT);
                due("put(" + sort + ", " + v[0] + ", " + v[1] + ", " + v[2] + ") refused", refused ? 1 : 0, j < 2 ? 0 : 1);
            }
        }
    }

    private static void statements(List<String> lines) {
        sentence("The statements");
        int sort = 0;
        for (String[] cells : rowsOf(lines, 6)) {
            due("sort of " + cells[2], Integer.parseInt(cells[1].trim()), sort);
            dueRanges(sort, new int[][] {rangeOf(cells[4]), rangeOf(cells[5]), rangeOf(cells[6])});
            sort++;
        }
        due("sorts told", sort, 14);
        due("no further sort", answerOf(new CheckSaver(), "put", new int[] {sort, 0, 0, 0}).equals("throws " + ARGUMENT) ? 1 : 0, 1);
    }

    private static String thrownBy(Method m) {
        List<String> names = new ArrayList<>();
        for (Class<?> thrown : m.getExceptionTypes()) {
            names.add(thrown.getSimpleName());
        }
        return String.join(", ", names);
    }

    private static void calls(List<String> lines) {
        sentence("The calls");
        Set<String> told = new TreeSet<>();
        for (String[] cells : rowsOf(lines, 3)) {
            Matcher call = CALL_TOLD.matcher(cells[1].trim());
            Method m = call.matches() ? methodOf(call.group(1)) : null;
            if (m == null) {
                fail("no such call: " + cells[1]);
                continue;
            }
            told.add(m.getName());
            due(m.getName() + " takes", m.getParameterCount(), call.group(2).isBlank() ? 0 : call.group(2).split(",").length);
            due(m.getName() + " throws " + thrownBy(m), thrownBy(m).equals(cells[3].trim()) ? 1 : 0, 1);
        }
        for (Method m : CheckSaver.class.getDeclaredMethods()) {
            if (Modifier.isPublic(m.getModifiers())) {
                due(m.getName() + " is told", told.contains(m.getName()) ? 1 : 0, 1);
            }
        }
    }

    private static Set<String> testsOfProject() throws IOException {
        Set<String> names = new TreeSet<>();
        try (DirectoryStream<Path> files = Files.newDirectoryStream(TESTS, "*Test.java")) {
            for (Path file : files) {
                names.add(file.getFileName().toString().replace(".java", ""));
            }
        }
        return names;
    }

    private static void tests(List<String> lines) throws IOException {
        sentence("How to run its tests");
        due(".ci/run is told", lines.contains("    .ci/run") ? 1 : 0, 1);
        due(".ci/run can be run", Files.isExecutable(Path.of(".ci/run")) ? 1 : 0, 1);
        Set<String> told = new TreeSet<>();
        for (String line : lines) {
            Matcher test = TEST_TOLD.matcher(line);
            while (test.find()) {
                told.add(test.group(1) == null ? test.group(2) : test.group(1));
            }
        }
        if (!told.equals(testsOfProject())) {
            fail("tests told are " + told + ", there are " + testsOfProject());
        }
    }

    public static void main(String[] args) {
        try {
            List<String> lines = Files.readAllLines(README);
            examples(lines);
            statements(lines);
            calls(lines);
            tests(lines);
        } catch (IOException e) {
            throw new UncheckedIOException(e);
        }
        finish("ReadmeTest");
    }
}
