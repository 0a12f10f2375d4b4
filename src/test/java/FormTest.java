import java.io.IOException;
import java.lang.reflect.Constructor;
import java.lang.reflect.Field;
import java.lang.reflect.Method;
import java.lang.reflect.Modifier;
import java.nio.file.Files;
import java.nio.file.Path;
import java.util.ArrayList;
import java.util.List;
import java.util.TreeSet;
import java.util.regex.Matcher;
import java.util.regex.Pattern;

/** The face of the document, and what LANGUAGE.md forbids as far as it can be seen in the text of the class. */
public final class FormTest {
    private static int wrong = 0;

    private static void due(String what, Object got, Object want) {
        if (!got.equals(want)) {
            wrong++;
            System.out.println(what + ": " + got + ", due is " + want);
        }
    }

    public static void main(String[] args) throws IOException {
        face();
        insideClasses();
        text(Files.readString(Path.of("src/main/java/PathReader.java")));
        System.out.println(wrong == 0 ? "the form is as due" : wrong + " things are not as due");
        if (wrong != 0) {
            System.exit(1);
        }
    }

    private static void face() {
        due("the class is public and final", PathReader.class.getModifiers() & (Modifier.PUBLIC | Modifier.FINAL),
            Modifier.PUBLIC | Modifier.FINAL);
        TreeSet<String> want = new TreeSet<>(List.of("int NONE", "int BAD", "int NO", "int FULL", "new 0",
            "int rules 4", "int roots 2", "int entry 3", "int sets 2", "int rule 3", "int of 2", "int hears 1",
            "int unhears 0", "int silence 0", "int rereads 0", "int word 2", "int held 1", "int best 2", "int ways 0",
            "int sound 0", "int type 1", "int clear 0", "int does 0", "int back 0", "int told 1", "long digest 0"));
        TreeSet<String> got = new TreeSet<>();
        List<String> between = new ArrayList<>();
        List<String> secret = new ArrayList<>();
        for (Field f : PathReader.class.getDeclaredFields()) {
            sortOut(f.getModifiers(), f.getType() + " " + f.getName(), got, between);
        }
        for (Constructor<?> c : PathReader.class.getDeclaredConstructors()) {
            sortOut(c.getModifiers(), "new " + c.getParameterCount(), got, between);
        }
        for (Method m : PathReader.class.getDeclaredMethods()) {
            sortOut(m.getModifiers(), m.getReturnType() + " " + m.getName() + " " + m.getParameterCount(), got, between);
            if (Modifier.isPrivate(m.getModifiers())) {
                secret.add(m.getName());
            }
        }
        due("the public face", got, want);
        due("neither public nor private", between, List.of());
        for (String name : secret) {
            due("a private method bears a public name: " + name, got.toString().contains("t " + name + " "), false);
        }
    }

    private static void sortOut(int modifiers, String what, TreeSet<String> open, List<String> between) {
        if (Modifier.isPublic(modifiers)) {
            open.add(what);
        } else if (!Modifier.isPrivate(modifiers)) {
            between.add(what);
        }
    }

    private static void insideClasses() {
        Class<?>[] inside = PathReader.class.getDeclaredClasses();
        due("some twelve classes", inside.length <= 11, true);
        for (Class<?> c : inside) {
            due(c + " is static", Modifier.isStatic(c.getModifiers()), true);
            due(c + " is not public", Modifier.isPublic(c.getModifiers()), false);
            due(c + " has some twenty fields", fieldsOf(c) <= 20, true);
            for (Method m : c.getDeclaredMethods()) {
                due(m + " has seven parameters at most", m.getParameterCount() <= 7, true);
            }
        }
        for (Class<?> c : inside) {
            for (Field f : c.getDeclaredFields()) {
                due(f + ", if static, is final", !Modifier.isStatic(f.getModifiers())
                    || Modifier.isFinal(f.getModifiers()), true);
            }
        }
    }

    private static int fieldsOf(Class<?> c) {
        int count = 0;
        for (Field f : c.getDeclaredFields()) {
            count += Modifier.isStatic(f.getModifiers()) ? 0 : 1;
        }
        return count;
    }

    private static void text(String source) {
        String code = source.replaceAll("(?s)/\\*.*?\\*/", "").replaceAll("//[^\n]*", "");
        Matcher m = Pattern.compile("\\b(throw|throws|try|catch|synchronized|assert|import|package|interface|double"
            + "|float|System\\.(?!arraycopy)\\w+|Random|Thread|lambda)\\b|->|::|Exact\\(").matcher(code);
        while (m.find()) {
            due("forbidden in the class: " + m.group(), true, false);
        }
        int start = 0, line = 0;
        for (String row : code.split("\n")) {
            line++;
            if (row.matches(" {4,8}\\S.*\\) \\{")) {
                start = line;
            }
            if (row.matches(" {4,8}\\}")) {
                due("lines of the method that ends in code line " + line, line - start <= 60 || start == 0, true);
                start = 0;
            }
        }
    }
}
