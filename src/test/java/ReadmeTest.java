import java.io.IOException;
import java.net.URL;
import java.net.URLClassLoader;
import java.nio.charset.StandardCharsets;
import java.nio.file.Files;
import java.nio.file.Path;
import java.util.ArrayList;
import java.util.Comparator;
import java.util.List;
import java.util.regex.Matcher;
import java.util.regex.Pattern;
import java.util.stream.Stream;
import javax.tools.JavaCompiler;
import javax.tools.ToolProvider;

/** README.md shows the class as it is: its example answers what it says, and no call or test is left out. */
public final class ReadmeTest {
    private static final Path README = Path.of("README.md");
    private static final Path TESTS = Path.of("src/test/java");
    private static final String EXAMPLE = "ReadmeExample";

    /** A call, perhaps kept in a variable, and behind it the number it answers or the exception it throws. */
    private static final Pattern TOLD = Pattern.compile(
            "(?:int (?<kept>\\w+) = )?(?<call>ribbons\\..+); +// (?:throws (?<thrown>\\w+)|(?<answer>-?[0-9]+(\\.[0-9]+)?)).*");

    private ReadmeTest() {
    }

    public static void main(String[] args) throws IOException, ReflectiveOperationException {
        List<String> lines = Files.readAllLines(README, StandardCharsets.UTF_8);
        exampleAnswers(exampleOf(lines));
        namesCalls(String.join("\n", lines));
        namesTests(String.join("\n", lines));
        Check.end("ReadmeTest");
    }

    private static List<String> exampleOf(List<String> lines) {
        int first = lines.indexOf("```java") + 1;
        int end = first;
        while (first > 0 && end < lines.size() && !lines.get(end).equals("```")) {
            end++;
        }
        return lines.subList(first, end);
    }

    // ---- the example

    private static void exampleAnswers(List<String> example) throws IOException, ReflectiveOperationException {
        List<String> calls = new ArrayList<>();
        List<String> due = new ArrayList<>();
        StringBuilder body = new StringBuilder();
        for (String line : example) {
            Matcher told = TOLD.matcher(line);
            if (told.matches()) {
                calls.add(told.group("call"));
                due.add(told.group("thrown") != null ? "throws " + told.group("thrown") : told.group("answer"));
                body.append(asCode(told));
            } else {
                Check.same("a line without an answer", line, "MourningRibbons ribbons = new MourningRibbons();");
                body.append(line).append('\n');
            }
        }
        Check.due("README.md has an example", calls.isEmpty() ? 0 : 1, 1);
        List<?> got = run(body.toString());
        Check.due("answers of the example", got.size(), due.size());
        for (int i = 0; i < due.size() && i < got.size(); i++) {
            Check.same(calls.get(i), String.valueOf(got.get(i)), due.get(i));
        }
    }

    private static String asCode(Matcher told) {
        String call = told.group("call");
        if (told.group("thrown") != null) {
            return "try { got.add(String.valueOf(" + call + ")); } catch (RuntimeException e) { "
                    + "got.add(\"throws \" + e.getClass().getSimpleName()); }\n";
        }
        if (told.group("kept") != null) {
            return "int " + told.group("kept") + " = " + call + "; got.add(String.valueOf(" + told.group("kept")
                    + "));\n";
        }
        return "got.add(String.valueOf(" + call + "));\n";
    }

    /** Compiles the example, since that it can be compiled is a part of what it says. */
    private static List<?> run(String body) throws IOException, ReflectiveOperationException {
        Path folder = Files.createTempDirectory("readme");
        try {
            Path source = folder.resolve(EXAMPLE + ".java");
            Files.writeString(source, "import java.util.*;\npublic final class " + EXAMPLE
                    + " {\npublic static List<String> answers() {\nList<String> got = new ArrayList<>();\n" + body
                    + "return got;\n}\n}\n");
            JavaCompiler compiler = ToolProvider.getSystemJavaCompiler();
            int code = compiler.run(null, null, null, "-cp", System.getProperty("java.class.path"),
                    "-d", folder.toString(), source.toString());
            Check.due("javac of the example", code, 0);
            if (code != 0) {
                return List.of();
            }
            try (URLClassLoader loader = new URLClassLoader(new URL[] {folder.toUri().toURL()})) {
                return (List<?>) loader.loadClass(EXAMPLE).getMethod("answers").invoke(null);
            }
        } finally {
            remove(folder);
        }
    }

    private static void remove(Path folder) throws IOException {
        try (Stream<Path> all = Files.walk(folder)) {
            for (Path path : all.sorted(Comparator.reverseOrder()).toList()) {
                Files.delete(path);
            }
        }
    }

    // ---- names

    private static void namesCalls(String readme) {
        for (var method : MourningRibbons.class.getMethods()) {
            if (method.getDeclaringClass() == MourningRibbons.class) {
                names(readme, method.getName());
            }
        }
    }

    private static void namesTests(String readme) throws IOException {
        names(readme, "../shared/tests");
        Check.due("README.md names .ci/run", readme.contains("\n.ci/run\n") ? 1 : 0, 1);
        try (Stream<Path> files = Files.list(TESTS)) {
            for (Path file : files.sorted().toList()) {
                String name = file.getFileName().toString();
                if (name.endsWith("Test.java")) {
                    names(readme, name.substring(0, name.indexOf('.')));
                }
            }
        }
    }

    private static void names(String readme, String word) {
        Check.due("README.md names `" + word + "`", readme.contains("`" + word + "`") ? 1 : 0, 1);
    }
}
