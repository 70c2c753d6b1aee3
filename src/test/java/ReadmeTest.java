import java.io.IOException;
import java.lang.reflect.Method;
import java.lang.reflect.Modifier;
import java.net.URL;
import java.net.URLClassLoader;
import java.nio.file.Files;
import java.nio.file.Path;
import java.util.ArrayList;
import java.util.Comparator;
import java.util.List;
import java.util.regex.Matcher;
import java.util.regex.Pattern;
import java.util.stream.Stream;
import javax.tools.JavaCompiler;
import javax.tools.ToolProvider;

/** What README.md shows is true: its Java is compiled and run, and each answer told behind a call is the one given. */
public final class ReadmeTest {
    private static final Pattern BLOCK = Pattern.compile("(?s)```java\n(.*?)```");
    private static final Pattern ANSWERED = Pattern.compile("(tide\\.\\w+\\(.*\\));\\s*// (-?\\d+|true|false)\\b.*");

    private final Harness h = new Harness();
    private final List<String> calls = new ArrayList<>();
    private final List<String> due = new ArrayList<>();

    public static void main(String[] args) throws IOException, ReflectiveOperationException {
        ReadmeTest test = new ReadmeTest();
        String readme = Files.readString(Path.of("README.md"));
        test.example(readme);
        test.table(readme);
        test.h.finish("ReadmeTest");
    }

    private void example(String readme) throws IOException, ReflectiveOperationException {
        h.topic("the example");
        Matcher block = BLOCK.matcher(readme);
        h.due("there is a helper", block.find(), true);
        String helper = block.group(1);
        h.due("there are calls", block.find(), true);
        String body = collecting(block.group(1));
        h.due("there are no other blocks", block.find(), false);
        h.due("many answers are told", calls.size() >= 20, true);
        List<?> got = run("public final class ReadmeExample {\n" + helper
                + "public static java.util.List<String> answers() {\n"
                + "java.util.List<String> answers = new java.util.ArrayList<>();\n" + body + "return answers;\n}\n}\n");
        h.due("all are answered", got.size(), calls.size());
        for (int k = 0; k < Math.min(got.size(), calls.size()); k++) {
            boolean same = due.get(k).equals(got.get(k));
            h.due(calls.get(k) + " is told as " + due.get(k) + " and is " + got.get(k) + ": that", same, true);
        }
    }

    /** The same lines, but each call with an answer behind it is collected. */
    private String collecting(String block) {
        StringBuilder body = new StringBuilder();
        for (String line : block.split("\n")) {
            Matcher answered = ANSWERED.matcher(line);
            boolean told = answered.matches();
            h.due("an answer is told behind " + line, told, line.startsWith("tide."));
            if (told) {
                calls.add(answered.group(1));
                due.add(answered.group(2));
            }
            body.append(told ? "answers.add(String.valueOf(" + answered.group(1) + "));" : line).append('\n');
        }
        return body.toString();
    }

    private List<?> run(String source) throws IOException, ReflectiveOperationException {
        Path work = Files.createTempDirectory("readme");
        Path file = Files.writeString(work.resolve("ReadmeExample.java"), source);
        JavaCompiler compiler = ToolProvider.getSystemJavaCompiler();
        int code = compiler == null ? 1 : compiler.run(null, null, null, "-cp", System.getProperty("java.class.path"),
                "-d", work.toString(), file.toString());
        h.due("README.md's Java compiles, with exit code", code, 0);
        List<?> answers = List.of();
        if (code == 0) {
            try (URLClassLoader loader = new URLClassLoader(new URL[] {work.toUri().toURL()})) {
                answers = (List<?>) loader.loadClass("ReadmeExample").getMethod("answers").invoke(null);
            }
        }
        remove(work);
        return answers;
    }

    private static void remove(Path work) throws IOException {
        List<Path> files;
        try (Stream<Path> walk = Files.walk(work)) {
            files = walk.sorted(Comparator.reverseOrder()).toList();
        }
        for (Path file : files) {
            Files.delete(file);
        }
    }

    private void table(String readme) {
        h.topic("the table of calls");
        StringBuilder named = new StringBuilder();
        for (String line : readme.split("\n")) {
            if (line.startsWith("| `")) {
                named.append(line, 0, line.indexOf('|', 1));
            }
        }
        int calls = 0;
        for (Method method : WrongTide.class.getDeclaredMethods()) {
            if (Modifier.isPublic(method.getModifiers())) {
                calls++;
                h.due(method.getName() + " is named", named.indexOf("`" + method.getName() + "`") >= 0, true);
            }
        }
        h.due("calls that are named", named.chars().filter(c -> c == '`').count(), 2L * calls);
    }
}
