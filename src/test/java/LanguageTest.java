import com.sun.source.tree.AssertTree;
import com.sun.source.tree.ClassTree;
import com.sun.source.tree.CompilationUnitTree;
import com.sun.source.tree.ExpressionTree;
import com.sun.source.tree.ImportTree;
import com.sun.source.tree.LambdaExpressionTree;
import com.sun.source.tree.MemberReferenceTree;
import com.sun.source.tree.MethodInvocationTree;
import com.sun.source.tree.MethodTree;
import com.sun.source.tree.NewClassTree;
import com.sun.source.tree.SynchronizedTree;
import com.sun.source.tree.ThrowTree;
import com.sun.source.tree.TryTree;
import com.sun.source.util.JavacTask;
import com.sun.source.util.TreePathScanner;
import com.sun.source.util.Trees;
import java.io.IOException;
import java.io.UncheckedIOException;
import java.lang.reflect.Constructor;
import java.lang.reflect.Field;
import java.lang.reflect.Method;
import java.lang.reflect.Modifier;
import java.nio.file.Path;
import java.util.ArrayList;
import java.util.Arrays;
import java.util.HashSet;
import java.util.LinkedHashMap;
import java.util.LinkedHashSet;
import java.util.List;
import java.util.Map;
import java.util.Set;
import javax.lang.model.element.Element;
import javax.lang.model.element.ElementKind;
import javax.tools.JavaCompiler;
import javax.tools.StandardJavaFileManager;
import javax.tools.ToolProvider;

/** What of the rules in ../shared/LANGUAGE.md can be read off the class and its file. It is run from the root of the project. */
public final class LanguageTest extends Expect {
    private static final Path FILE = Path.of("src/main/java/CheckSaver.java");
    private static final int MOST_LINES = 60;
    private static final int MOST_PARAMETERS = 7;
    private static final int MOST_CLASSES = 12;
    private static final int MOST_FIELDS = 20;
    private static final int DEEPEST_CALLS = 8;
    private static final Set<String> CONSTANTS = Set.of("int", "long", "boolean", "char", "String", "int[]", "long[]", "char[]", "byte[]");
    /** What the file uses of the library that rule 4 lists. */
    private static final Set<String> LIBRARY = Set.of("java.lang.Math.max", "java.lang.Math.min", "java.lang.Math.floorMod",
            "java.lang.Integer.bitCount", "java.lang.System.arraycopy");
    private static final Set<String> THROWN = Set.of(STATE, ARGUMENT, INDEX);

    private static void dueAtMost(String what, long got, int most) {
        if (got > most) {
            fail(what + ": " + got + ", at most " + most);
        }
    }

    private static List<Class<?>> allClasses() {
        List<Class<?>> all = new ArrayList<>();
        all.add(CheckSaver.class);
        for (int i = 0; i < all.size(); i++) {
            all.addAll(Arrays.asList(all.get(i).getDeclaredClasses()));
        }
        return all;
    }

    private static void classInside(Class<?> inside) {
        sentence("Rule 1: classes inside are private or package-visible and static");
        int hidden = inside.getModifiers() & (Modifier.PUBLIC | Modifier.PROTECTED | Modifier.STATIC);
        due(inside.getName(), hidden, Modifier.STATIC);
        // Made without anything from outside, a part can have nothing of the object that is just being made.
        sentence("Rule 12: a constructor hands out nothing of the object that it makes");
        for (Constructor<?> made : inside.getDeclaredConstructors()) {
            due("parameters of the constructor of " + inside.getName(), made.getParameterCount(), 0);
        }
    }

    private static void membersOf(Class<?> any, Set<String> publicNames) {
        for (Method m : any.getDeclaredMethods()) {
            sentence("Rule 11: at most seven parameters");
            dueAtMost(any.getName() + "." + m.getName(), m.getParameterCount(), MOST_PARAMETERS);
            sentence("Rule 1: no private method bears the name of a public one");
            boolean bears = publicNames.contains(m.getName()) && !Modifier.isPublic(m.getModifiers());
            due(any.getName() + "." + m.getName(), bears ? 1 : 0, 0);
        }
        int fields = 0;
        for (Field f : any.getDeclaredFields()) {
            if (Modifier.isStatic(f.getModifiers())) {
                sentence("Rule 5: static fields are final, and constants");
                boolean constant = Modifier.isFinal(f.getModifiers()) && CONSTANTS.contains(f.getType().getSimpleName());
                due(any.getName() + "." + f.getName(), constant ? 1 : 0, 1);
            } else {
                fields++;
            }
        }
        sentence("Rule 11: a class has some twenty fields beside its constants");
        dueAtMost(any.getName(), fields, MOST_FIELDS);
    }

    private static void readClasses() {
        Set<String> publicNames = new HashSet<>();
        for (Method m : CheckSaver.class.getMethods()) {
            if (m.getDeclaringClass() == CheckSaver.class) {
                publicNames.add(m.getName());
            }
        }
        List<Class<?>> all = allClasses();
        sentence("Rule 11: the file has at most some twelve classes");
        dueAtMost("classes", all.size(), MOST_CLASSES);
        for (Class<?> any : all) {
            membersOf(any, publicNames);
            if (any != CheckSaver.class) {
                classInside(any);
            }
        }
    }

    /** Goes through the file once; keeps which method calls which. */
    private static final class Reader extends TreePathScanner<Void, Void> {
        final Map<String, Set<String>> calls = new LinkedHashMap<>();
        private final Trees trees;
        private final CompilationUnitTree unit;
        private String owner = "";
        private String method = "";

        Reader(Trees trees, CompilationUnitTree unit) {
            this.trees = trees;
            this.unit = unit;
        }

        private void refuse(String rule, String what) {
            sentence(rule);
            fail(what + " in " + method);
        }

        @Override
        public Void visitClass(ClassTree tree, Void none) {
            String before = owner;
            owner = trees.getElement(getCurrentPath()).toString();
            method = owner;
            super.visitClass(tree, none);
            owner = before;
            return null;
        }

        @Override
        public Void visitMethod(MethodTree tree, Void none) {
            method = owner + "." + tree.getName();
            long from = trees.getSourcePositions().getStartPosition(unit, tree);
            long to = trees.getSourcePositions().getEndPosition(unit, tree);
            sentence("Rule 11: methods stay short (some sixty lines)");
            // The tree of a constructor that is not written has no place in the file.
            if (from >= 0 && to >= 0) {
                dueAtMost(method, unit.getLineMap().getLineNumber(to) - unit.getLineMap().getLineNumber(from) + 1, MOST_LINES);
            }
            super.visitMethod(tree, none);
            method = owner;
            return null;
        }

        @Override
        public Void visitMethodInvocation(MethodInvocationTree tree, Void none) {
            Element called = trees.getElement(getCurrentPath());
            String name = called.getEnclosingElement() + "." + called.getSimpleName();
            if (name.startsWith("CheckSaver")) {
                calls.computeIfAbsent(method, m -> new LinkedHashSet<>()).add(name);
            } else if (called.getKind() == ElementKind.METHOD && !LIBRARY.contains(name)) {
                refuse("Rule 4: the library", name);
            }
            return super.visitMethodInvocation(tree, none);
        }

        @Override
        public Void visitThrow(ThrowTree tree, Void none) {
            ExpressionTree thrown = tree.getExpression();
            boolean listed = thrown instanceof NewClassTree && THROWN.contains(((NewClassTree) thrown).getIdentifier().toString());
            if (!listed || method.endsWith("<init>")) {
                refuse("Rule 6: exceptions", tree.toString());
            }
            return super.visitThrow(tree, none);
        }

        @Override
        public Void visitImport(ImportTree tree, Void none) {
            refuse("Rule 4: the library", tree.toString());
            return super.visitImport(tree, none);
        }

        @Override
        public Void visitLambdaExpression(LambdaExpressionTree tree, Void none) {
            refuse("Rule 2: no lambda", tree.toString());
            return super.visitLambdaExpression(tree, none);
        }

        @Override
        public Void visitMemberReference(MemberReferenceTree tree, Void none) {
            refuse("Rule 2: no method reference", tree.toString());
            return super.visitMemberReference(tree, none);
        }

        @Override
        public Void visitTry(TryTree tree, Void none) {
            if (tree.getFinallyBlock() != null || !tree.getResources().isEmpty()) {
                refuse("Rule 6: no finally, no try with resources", "try");
            }
            return super.visitTry(tree, none);
        }

        @Override
        public Void visitAssert(AssertTree tree, Void none) {
            refuse("Rule 6: no assert", tree.toString());
            return super.visitAssert(tree, none);
        }

        @Override
        public Void visitSynchronized(SynchronizedTree tree, Void none) {
            refuse("Rule 6: no synchronized", "synchronized");
            return super.visitSynchronized(tree, none);
        }
    }

    /** How many calls stand open at once, from this method on; the open ones tell a recursion. */
    private static int depthFrom(String method, Map<String, Set<String>> calls, Set<String> open) {
        if (!open.add(method)) {
            fail(method + " calls itself through " + open);
            return 0;
        }
        int deepest = 0;
        for (String called : calls.getOrDefault(method, Set.of())) {
            deepest = Math.max(deepest, depthFrom(called, calls, open));
        }
        open.remove(method);
        return deepest + 1;
    }

    private static void readFile() throws IOException {
        JavaCompiler compiler = ToolProvider.getSystemJavaCompiler();
        try (StandardJavaFileManager files = compiler.getStandardFileManager(null, null, null)) {
            JavacTask task = (JavacTask) compiler.getTask(null, files, null, List.of("-proc:none"), null, files.getJavaFileObjects(FILE));
            CompilationUnitTree unit = task.parse().iterator().next();
            task.analyze();
            Reader reader = new Reader(Trees.instance(task), unit);
            reader.scan(unit, null);
            sentence("Rules 8 and 11: no recursion, calls go at most eight deep");
            due("methods that call others", reader.calls.size() > 20 ? 1 : 0, 1);
            for (String method : reader.calls.keySet()) {
                dueAtMost(method, depthFrom(method, reader.calls, new LinkedHashSet<>()), DEEPEST_CALLS);
            }
        }
    }

    public static void main(String[] args) {
        readClasses();
        try {
            readFile();
        } catch (IOException e) {
            throw new UncheckedIOException(e);
        }
        finish("LanguageTest");
    }
}
