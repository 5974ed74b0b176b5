import java.io.IOException;
import java.lang.reflect.InvocationTargetException;
import java.net.URL;
import java.net.URLClassLoader;
import java.nio.file.Files;
import java.nio.file.Path;
import java.util.ArrayList;
import java.util.Comparator;
import java.util.List;
import java.util.regex.Matcher;
import java.util.regex.Pattern;
import java.util.stream.Stream;
import javax.tools.ToolProvider;

/** The examples of README.md compile, and each call answers what is written behind it. */
public final class ReadmeTest {
    private static final Pattern ANSWERED =
            Pattern.compile("(?:int \\w+ = )?(.*);\\s+// answers (-?\\w+).*");
    private static final Pattern KEPT = Pattern.compile("int (\\w+) = .*");

    public static void main(String[] args) throws Exception {
        List<String> lines = examples();
        Check.isTrue("there are examples", lines.size() > 20);
        Path work = Files.createTempDirectory("readme");
        try {
            run(work, lines);
        } finally {
            remove(work);
        }
        Check.end();
    }

    private static List<String> examples() throws IOException {
        List<String> lines = new ArrayList<>();
        boolean isInside = false;
        for (String line : Files.readAllLines(Path.of("README.md"))) {
            if (line.startsWith("```")) {
                isInside = line.equals("```java");
            } else if (isInside) {
                lines.add(line);
            }
        }
        return lines;
    }

    /** What a call answers is handed to a row, for Check lives in another loader. */
    private static String program(List<String> lines, List<String> calls, List<String> due) {
        StringBuilder program = new StringBuilder("public final class ReadmeExample {\n");
        program.append("public static java.util.List<Long> run() {\n");
        program.append("java.util.List<Long> got = new java.util.ArrayList<>();\n");
        for (String line : lines) {
            Matcher answered = ANSWERED.matcher(line);
            Matcher kept = KEPT.matcher(line);
            if (!answered.matches()) {
                program.append(line).append('\n');
                continue;
            }
            calls.add(answered.group(1));
            due.add(answered.group(2));
            boolean isKept = kept.matches();
            program.append(isKept ? line + "\n" : "");
            program.append("got.add((long) ").append(isKept ? kept.group(1) : answered.group(1)).append(");\n");
        }
        return program.append("return got;\n}\n}\n").toString();
    }

    private static void run(Path work, List<String> lines) throws IOException, ReflectiveOperationException {
        List<String> calls = new ArrayList<>();
        List<String> due = new ArrayList<>();
        Path source = work.resolve("ReadmeExample.java");
        Files.writeString(source, program(lines, calls, due));
        int failed = ToolProvider.getSystemJavaCompiler().run(null, null, null, "-d", work.toString(),
                source.toString(), "src/main/java/TelecontrolPost.java");
        Check.same("the examples compile", failed, 0);
        if (failed != 0) {
            return;
        }
        try (URLClassLoader loader = new URLClassLoader(new URL[] {work.toUri().toURL()})) {
            Object got = loader.loadClass("ReadmeExample").getMethod("run").invoke(null);
            List<?> answers = (List<?>) got;
            Check.isTrue("there are answers", answers.size() > 20);
            for (int i = 0; i < answers.size(); i++) {
                long want = Long.decode(due.get(i).replace("L", ""));
                Check.same(calls.get(i), (Long) answers.get(i), want);
            }
        } catch (InvocationTargetException thrown) {
            Check.isTrue("nothing is thrown, not " + thrown.getCause(), false);
        }
    }

    private static void remove(Path work) throws IOException {
        try (Stream<Path> all = Files.walk(work)) {
            for (Path each : all.sorted(Comparator.reverseOrder()).toList()) {
                Files.delete(each);
            }
        }
    }
}
