import java.io.IOException;
import java.lang.reflect.Method;
import java.lang.reflect.Modifier;
import java.net.URL;
import java.net.URLClassLoader;
import java.nio.charset.StandardCharsets;
import java.nio.file.Files;
import java.nio.file.Path;
import java.util.ArrayList;
import java.util.List;
import java.util.regex.Matcher;
import java.util.regex.Pattern;
import javax.tools.JavaCompiler;
import javax.tools.ToolProvider;

/** What README.md shows as an example is compiled and run, and answers as it says there. */
public final class ReadmeTest {
    private static final Pattern SHOWN = Pattern.compile("(x\\.(\\w+)\\(.*\\)); +// (-?\\d+): .*");

    public static void main(String[] args) throws Exception {
        List<String> lines = exampleLines();
        List<String> calls = new ArrayList<>();
        List<Long> wanted = new ArrayList<>();
        String program = program(lines, calls, wanted);
        everyCallIsShown(lines);
        List<Long> answers = run(program);
        Checks.due("how many calls of README.md answered", answers.size(), wanted.size());
        for (int i = 0; i < Math.min(answers.size(), wanted.size()); i++) {
            Checks.due("README.md: " + calls.get(i), answers.get(i), wanted.get(i));
        }
        Checks.end("ReadmeTest");
    }

    /** The lines of all java blocks, one behind the other, as they go on with one object. */
    private static List<String> exampleLines() throws IOException {
        List<String> lines = new ArrayList<>();
        boolean isInside = false;
        for (String line : Files.readAllLines(Path.of("README.md"), StandardCharsets.UTF_8)) {
            if (line.startsWith("```")) {
                isInside = line.equals("```java");
            } else if (isInside) {
                lines.add(line);
            }
        }
        return lines;
    }

    /** A line that says what it answers adds that to a list; each other line stays as it is. */
    private static String program(List<String> lines, List<String> calls, List<Long> wanted) {
        StringBuilder program = new StringBuilder("public final class ReadmeExample {\n");
        program.append("public static void run(java.util.List<Long> answers) {\n");
        for (String line : lines) {
            Matcher shown = SHOWN.matcher(line);
            if (shown.matches()) {
                program.append("answers.add((long) ").append(shown.group(1)).append(");\n");
                calls.add(shown.group(1));
                wanted.add(Long.parseLong(shown.group(3)));
            } else {
                Checks.holds("README.md: a line that says what it answers can be read: " + line, !line.contains("//"));
                program.append(line).append('\n');
            }
        }
        return program.append("}\n}\n").toString();
    }

    private static void everyCallIsShown(List<String> lines) {
        for (Method method : RegaliaVotes.class.getDeclaredMethods()) {
            String call = "x." + method.getName() + "(";
            boolean isShown = lines.stream().anyMatch(line -> line.startsWith(call) && SHOWN.matcher(line).matches());
            if (Modifier.isPublic(method.getModifiers())) {
                Checks.holds("README.md shows " + method.getName() + "()", isShown);
            }
        }
    }

    private static List<Long> run(String program) throws Exception {
        Path place = Files.createTempDirectory("readme");
        Path source = place.resolve("ReadmeExample.java");
        Path compiled = place.resolve("ReadmeExample.class");
        List<Long> answers = new ArrayList<>();
        try {
            Files.writeString(source, program);
            JavaCompiler compiler = ToolProvider.getSystemJavaCompiler();
            int code = compiler.run(null, null, null, "-encoding", "UTF-8", "-cp",
                    System.getProperty("java.class.path"), "-d", place.toString(), source.toString());
            Checks.due("javac of the example of README.md", code, 0);
            if (code == 0) {
                try (URLClassLoader loader = new URLClassLoader(new URL[] {place.toUri().toURL()})) {
                    loader.loadClass("ReadmeExample").getMethod("run", List.class).invoke(null, answers);
                }
            }
        } finally {
            Files.deleteIfExists(compiled);
            Files.deleteIfExists(source);
            Files.deleteIfExists(place);
        }
        return answers;
    }
}
