import com.sun.source.tree.ClassTree;
import com.sun.source.tree.CompilationUnitTree;
import com.sun.source.tree.MethodInvocationTree;
import com.sun.source.tree.MethodTree;
import com.sun.source.tree.NewArrayTree;
import com.sun.source.tree.NewClassTree;
import com.sun.source.tree.PrimitiveTypeTree;
import com.sun.source.tree.Tree;
import com.sun.source.tree.TypeCastTree;
import com.sun.source.tree.VariableTree;
import com.sun.source.util.JavacTask;
import com.sun.source.util.TreeScanner;
import com.sun.source.util.Trees;
import java.io.IOException;
import java.lang.reflect.Constructor;
import java.lang.reflect.Field;
import java.lang.reflect.InvocationTargetException;
import java.lang.reflect.Method;
import java.lang.reflect.Modifier;
import java.nio.file.Path;
import java.util.ArrayList;
import java.util.Arrays;
import java.util.Comparator;
import java.util.LinkedHashMap;
import java.util.LinkedHashSet;
import java.util.List;
import java.util.Map;
import java.util.Random;
import java.util.Set;
import java.util.TreeSet;
import javax.lang.model.element.Element;
import javax.lang.model.element.ElementKind;
import javax.tools.JavaCompiler;
import javax.tools.StandardJavaFileManager;
import javax.tools.ToolProvider;

/** The face of the document, and what LANGUAGE.md forbids as far as a program can see it. */
public final class FormTest {
    private static int wrong = 0;

    private static void due(String what, Object got, Object want) {
        if (!got.equals(want)) {
            wrong++;
            System.out.println(what + ": " + got + ", due is " + want);
        }
    }

    public static void main(String[] args) throws IOException, IllegalAccessException {
        face();
        insideClasses();
        source();
        neverThrows();
        System.out.println(wrong == 0 ? "the form is as due" : wrong + " things are not as due");
        if (wrong != 0) {
            System.exit(1);
        }
    }

    private static void face() {
        due("the class is public and final", PathReader.class.getModifiers() & (Modifier.PUBLIC | Modifier.FINAL),
            Modifier.PUBLIC | Modifier.FINAL);
        TreeSet<String> want = new TreeSet<>(List.of("int NONE", "int BAD", "int NO", "int FULL", "new 0",
            "int rules 4", "int roots 2", "int entry 3", "int sets 2", "int rule 3", "int of 2", "int hears 1",
            "int unhears 0", "int silence 0", "int rereads 0", "int word 2", "int held 1", "int best 2", "int ways 0",
            "int sound 0", "int type 1", "int clear 0", "int does 0", "int back 0", "int told 1", "long digest 0"));
        TreeSet<String> got = new TreeSet<>();
        List<String> between = new ArrayList<>();
        List<String> secret = new ArrayList<>();
        for (Field f : PathReader.class.getDeclaredFields()) {
            sortOut(f.getModifiers(), f.getType() + " " + f.getName(), got, between);
        }
        for (Constructor<?> c : PathReader.class.getDeclaredConstructors()) {
            sortOut(c.getModifiers(), "new " + c.getParameterCount(), got, between);
        }
        for (Method m : PathReader.class.getDeclaredMethods()) {
            sortOut(m.getModifiers(), m.getReturnType() + " " + m.getName() + " " + m.getParameterCount(), got, between);
            if (Modifier.isPrivate(m.getModifiers())) {
                secret.add(m.getName());
            }
        }
        due("the public face", got, want);
        due("neither public nor private", between, List.of());
        for (String name : secret) {
            due("a private method bears a public name: " + name, publicNames().contains(name), false);
        }
    }

    private static void sortOut(int modifiers, String what, TreeSet<String> open, List<String> between) {
        if (Modifier.isPublic(modifiers)) {
            open.add(what);
        } else if (!Modifier.isPrivate(modifiers)) {
            between.add(what);
        }
    }

    private static void insideClasses() {
        Class<?>[] inside = PathReader.class.getDeclaredClasses();
        due("some twelve classes", inside.length <= 11, true);
        due("some twenty fields", fieldsOf(PathReader.class) <= 20, true);
        for (Class<?> c : inside) {
            due(c + " is static", Modifier.isStatic(c.getModifiers()), true);
            due(c + " is not public", Modifier.isPublic(c.getModifiers()), false);
            due(c + " has some twenty fields", fieldsOf(c) <= 20, true);
            for (Method m : c.getDeclaredMethods()) {
                due(m + " bears a public name", publicNames().contains(m.getName()), false);
            }
        }
        statics(PathReader.class);
        for (Class<?> c : inside) {
            statics(c);
        }
    }

    private static void statics(Class<?> c) {
        List<Class<?>> types = List.of(int.class, long.class, boolean.class, char.class, String.class, int[].class,
            long[].class, char[].class, byte[].class);
        for (Field f : c.getDeclaredFields()) {
            if (Modifier.isStatic(f.getModifiers())) {
                due(f + " is final", Modifier.isFinal(f.getModifiers()), true);
                due(f + " is a constant", types.contains(f.getType()), true);
            }
        }
    }

    private static Set<String> publicNames() {
        Set<String> names = new TreeSet<>();
        for (Method m : PathReader.class.getMethods()) {
            if (m.getDeclaringClass() == PathReader.class) {
                names.add(m.getName());
            }
        }
        return names;
    }

    private static int fieldsOf(Class<?> c) {
        int count = 0;
        for (Field f : c.getDeclaredFields()) {
            count += Modifier.isStatic(f.getModifiers()) ? 0 : 1;
        }
        return count;
    }

    /** Far beyond the 512th call, too: what is answered is free there, but nothing may be thrown. */
    private static void neverThrows() throws IllegalAccessException {
        int[] odd = {Integer.MIN_VALUE, Integer.MAX_VALUE, -2, 6, 12, 100, 120, 128, 1 << 16, 1 << 31 >> 4};
        String signs = "efrow 0123456789;- ;";
        Random random = new Random(2605);
        PathReader x = new PathReader();
        List<Method> calls = new ArrayList<>();
        for (Method m : PathReader.class.getMethods()) {
            if (m.getDeclaringClass() == PathReader.class) {
                calls.add(m);
            }
        }
        calls.sort(Comparator.comparing(Method::getName));
        for (int k = 0; k < 200000 && wrong == 0; k++) {
            Method m = calls.get(random.nextInt(calls.size()));
            Object[] numbers = new Object[m.getParameterCount()];
            for (int n = 0; n < numbers.length; n++) {
                boolean isSign = m.getName().equals("type") && random.nextInt(8) != 0;
                numbers[n] = isSign ? signs.charAt(random.nextInt(signs.length()))
                    : random.nextInt(8) == 0 ? odd[random.nextInt(odd.length)] : random.nextInt(8) - 1;
            }
            try {
                m.invoke(x, numbers);
            } catch (InvocationTargetException e) {
                due("call " + k + ", " + m.getName() + Arrays.toString(numbers), e.getCause(), "an answer");
            }
        }
    }

    /** What can only be seen in the source: read and attributed by the compiler itself. */
    private static void source() throws IOException {
        JavaCompiler compiler = ToolProvider.getSystemJavaCompiler();
        StandardJavaFileManager files = compiler.getStandardFileManager(null, null, null);
        JavacTask task = (JavacTask) compiler.getTask(null, files, null, List.of("-proc:none"), null,
            files.getJavaFileObjects(Path.of("src/main/java/PathReader.java")));
        CompilationUnitTree unit = task.parse().iterator().next();
        task.analyze();
        due("imports", unit.getImports().isEmpty(), true);
        due("package line", unit.getPackageName() == null, true);
        due("classes in the file", unit.getTypeDecls().size(), 1);
        Reading reading = new Reading(unit, Trees.instance(task));
        reading.scan(unit, null);
        due("methods seen", reading.calls.size() > 50, true);
        for (Element method : reading.calls.keySet()) {
            int depth = reading.depthOf(method, 0);
            due("calls open at once from " + method + ": " + depth + ", eight at most", depth <= 8, true);
        }
        files.close();
    }

    private static final class Reading extends TreeScanner<Void, Void> {
        private static final Set<Tree.Kind> FORBIDDEN = Set.of(Tree.Kind.THROW, Tree.Kind.TRY, Tree.Kind.CATCH,
            Tree.Kind.SYNCHRONIZED, Tree.Kind.ASSERT, Tree.Kind.LAMBDA_EXPRESSION, Tree.Kind.MEMBER_REFERENCE,
            Tree.Kind.INSTANCE_OF, Tree.Kind.TYPE_CAST, Tree.Kind.ANNOTATION);
        private static final Set<String> LIBRARY = Set.of("java.lang.Math.max", "java.lang.Math.min",
            "java.lang.Math.abs", "java.lang.System.arraycopy", "java.lang.Object.<init>");
        private static final Set<String> TYPES = Set.of("int", "long", "boolean", "int[]", "long[]");

        final CompilationUnitTree unit;
        final Trees trees;
        final Map<Element, Set<Element>> calls = new LinkedHashMap<>();
        Element method = null;

        Reading(CompilationUnitTree unit, Trees trees) {
            this.unit = unit;
            this.trees = trees;
        }

        Element elementOf(Tree tree) {
            return trees.getElement(trees.getPath(unit, tree));
        }

        @Override
        public Void scan(Tree tree, Void nothing) {
            if (tree != null && FORBIDDEN.contains(tree.getKind()) && !isCastOfNumbers(tree)) {
                due("forbidden in the class: " + tree, true, false);
            }
            return super.scan(tree, nothing);
        }

        private static boolean isCastOfNumbers(Tree tree) {
            return tree instanceof TypeCastTree && ((TypeCastTree) tree).getType() instanceof PrimitiveTypeTree;
        }

        @Override
        public Void visitClass(ClassTree tree, Void nothing) {
            due("a class inside a method: " + tree.getSimpleName(), method == null, true);
            for (Tree member : tree.getMembers()) {
                due("an initialiser block", member.getKind() == Tree.Kind.BLOCK, false);
            }
            return super.visitClass(tree, nothing);
        }

        @Override
        public Void visitMethod(MethodTree tree, Void nothing) {
            method = elementOf(tree);
            calls.put(method, new LinkedHashSet<>());
            long lines = lineOf(trees.getSourcePositions().getEndPosition(unit, tree)) - lineOf(startOf(tree)) + 1;
            due("lines of " + method + ": " + lines + ", sixty at most", lines <= 60, true);
            due("parameters of " + method, tree.getParameters().size() <= 7, true);
            super.visitMethod(tree, nothing);
            method = null;
            return null;
        }

        private long startOf(Tree tree) {
            return trees.getSourcePositions().getStartPosition(unit, tree);
        }

        private long lineOf(long position) {
            return unit.getLineMap().getLineNumber(position);
        }

        @Override
        public Void visitVariable(VariableTree tree, Void nothing) {
            String type = elementOf(tree).asType().toString();
            due("type of " + tree.getName() + ": " + type, TYPES.contains(type) || type.startsWith("PathReader."), true);
            return super.visitVariable(tree, nothing);
        }

        @Override
        public Void visitMethodInvocation(MethodInvocationTree tree, Void nothing) {
            Element called = elementOf(tree.getMethodSelect());
            String owner = called.getEnclosingElement().toString();
            if (owner.equals("PathReader") || owner.startsWith("PathReader.")) {
                calls.get(method).add(called);
            } else {
                String name = owner + "." + called.getSimpleName();
                due("not in the library: " + name, LIBRARY.contains(name), true);
            }
            return super.visitMethodInvocation(tree, nothing);
        }

        @Override
        public Void visitNewClass(NewClassTree tree, Void nothing) {
            madeOnlyAtFirst(tree);
            due("an anonymous class", tree.getClassBody() == null, true);
            return super.visitNewClass(tree, nothing);
        }

        @Override
        public Void visitNewArray(NewArrayTree tree, Void nothing) {
            madeOnlyAtFirst(tree);
            return super.visitNewArray(tree, nothing);
        }

        /** README.md tells that no call makes an object: they are made by fields and constructors alone. */
        private void madeOnlyAtFirst(Tree tree) {
            due("made by a call: " + tree, method == null || method.getKind() == ElementKind.CONSTRUCTOR, true);
        }

        /** How many calls stand open at once, this one, too; a recursion goes above eight. */
        int depthOf(Element from, int open) {
            int deepest = 0;
            if (open < 9) {
                for (Element next : calls.getOrDefault(from, Set.of())) {
                    deepest = Math.max(deepest, depthOf(next, open + 1));
                }
            }
            return deepest + 1;
        }
    }
}
