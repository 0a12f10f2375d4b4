import java.io.IOException;
import java.net.URL;
import java.net.URLClassLoader;
import java.nio.file.Files;
import java.nio.file.Path;
import java.util.regex.Matcher;
import java.util.regex.Pattern;
import javax.tools.ToolProvider;

/** Makes the calls of README.md's Java blocks; the number behind // is the answer that is due. */
public final class ReadmeTest {
    private static final Pattern BLOCK = Pattern.compile("```java\n(.*?)```", Pattern.DOTALL);
    private static final Pattern CALL =
        Pattern.compile("(?:int (\\w+) = )?(\\w+\\.\\w+\\([^/]*\\)); +// (-?\\d+)(?::.*)?");
    private static int wrong = 0;
    private static int calls = 0;

    public static void due(String call, int got, int want) {
        calls++;
        if (got != want) {
            wrong++;
            System.out.println(call + " answered " + got + ", README.md says " + want);
        }
    }

    public static void main(String[] args) throws Exception {
        runBlocks(Files.readString(Path.of("README.md")));
        if (calls < 20) {
            wrong++;
            System.out.println("README.md tells only " + calls + " calls with their answers");
        }
        System.out.println(wrong == 0 ? calls + " calls: README.md is as due" : wrong + " things are not as due");
        if (wrong != 0) {
            System.exit(1);
        }
    }

    private static void runBlocks(String page) throws Exception {
        StringBuilder body = new StringBuilder();
        Matcher block = BLOCK.matcher(page);
        while (block.find()) {
            for (String line : block.group(1).split("\n")) {
                body.append(checked(line)).append('\n');
            }
        }
        Path room = Files.createTempDirectory("readme");
        try {
            compileAndRun(room, "public final class ReadmeCalls { public static void run() {\n" + body + "} }\n");
        } finally {
            for (String name : new String[] {"ReadmeCalls.java", "ReadmeCalls.class"}) {
                Files.deleteIfExists(room.resolve(name));
            }
            Files.delete(room);
        }
    }

    /** The line, its call's answer being looked at if the line tells one. */
    private static String checked(String line) {
        Matcher m = CALL.matcher(line);
        if (!m.matches()) {
            if (line.contains("//")) {
                due("not understood: " + line, 0, 1);
            }
            return line;
        }
        String call = m.group(2);
        String told = "\"" + call.replace("\"", "\\\"") + "\"";
        if (m.group(1) == null) {
            return "ReadmeTest.due(" + told + ", " + call + ", " + m.group(3) + ");";
        }
        return "int " + m.group(1) + " = " + call + ";\nReadmeTest.due(" + told + ", " + m.group(1) + ", " + m.group(3)
            + ");";
    }

    private static void compileAndRun(Path room, String source) throws Exception {
        Path file = room.resolve("ReadmeCalls.java");
        Files.writeString(file, source);
        String classes = System.getProperty("java.class.path");
        int code = ToolProvider.getSystemJavaCompiler().run(null, null, null, "-cp", classes, "-d", room.toString(),
            file.toString());
        due("javac of README.md's blocks", code, 0);
        if (code == 0) {
            callRun(room.toUri().toURL());
        }
    }

    private static void callRun(URL room) throws ReflectiveOperationException, IOException {
        try (URLClassLoader loader = new URLClassLoader(new URL[] {room}, ReadmeTest.class.getClassLoader())) {
            loader.loadClass("ReadmeCalls").getMethod("run").invoke(null);
        }
    }
}
