import java.io.IOException;
import java.net.URL;
import java.net.URLClassLoader;
import java.nio.charset.StandardCharsets;
import java.nio.file.Files;
import java.nio.file.Path;
import java.util.Comparator;
import java.util.List;
import java.util.regex.Matcher;
import java.util.regex.Pattern;
import java.util.stream.Collectors;
import java.util.stream.Stream;
import javax.tools.ToolProvider;

/** Runs the program that README.md shows, and holds each answer against the one that stands behind the call. */
public final class ReadmeTest extends Checks {
    private static final Path README = Path.of("README.md");
    private static final Pattern BLOCK = Pattern.compile("```java\n(.*?)```", Pattern.DOTALL);
    private static final Pattern ANSWERED =
            Pattern.compile("(?<kept>int \\w+ = )?(?<call>service\\..*\\)); +// (?<answer>-?\\d+)\\b.*");
    private static final int FEWEST_ANSWERS = 20;

    private static int answers;

    public static void main(String[] args) throws IOException, ReflectiveOperationException {
        of("README.md");
        run(program(Files.readString(README, StandardCharsets.UTF_8)));
        due("the answers are found", answers >= FEWEST_ANSWERS ? "enough" : "only " + answers, "enough");
        finish("ReadmeTest");
    }

    /** Called by the program of the page. */
    public static int answered(String call, int got, int want) {
        answers++;
        due(call, got, want);
        return got;
    }

    private static String program(String page) {
        StringBuilder lines = new StringBuilder("public final class ReadmeProgram { public static void main() {\n");
        Matcher block = BLOCK.matcher(page);
        while (block.find()) {
            block.group(1).lines().forEach(line -> lines.append(checked(line)).append('\n'));
        }
        return lines.append("} }\n").toString();
    }

    private static String checked(String line) {
        Matcher answered = ANSWERED.matcher(line);
        if (!answered.matches()) {
            return line;
        }
        String kept = answered.group("kept") == null ? "" : answered.group("kept");
        String call = answered.group("call");
        return kept + "ReadmeTest.answered(\"" + call + "\", " + call + ", " + answered.group("answer") + ");";
    }

    private static void run(String program) throws IOException, ReflectiveOperationException {
        Path folder = Files.createTempDirectory("readme");
        try {
            Path source = Files.writeString(folder.resolve("ReadmeProgram.java"), program);
            int result = ToolProvider.getSystemJavaCompiler().run(null, null, null,
                    "-cp", System.getProperty("java.class.path"), "-d", folder.toString(), source.toString());
            due("javac", result, 0);
            if (result == 0) {
                try (URLClassLoader loader = new URLClassLoader(new URL[] {folder.toUri().toURL()})) {
                    loader.loadClass("ReadmeProgram").getMethod("main").invoke(null);
                }
            }
        } finally {
            delete(folder);
        }
    }

    private static void delete(Path folder) throws IOException {
        List<Path> inside;
        try (Stream<Path> paths = Files.walk(folder)) {
            inside = paths.sorted(Comparator.reverseOrder()).collect(Collectors.toList());
        }
        for (Path path : inside) {
            Files.delete(path);
        }
    }
}
