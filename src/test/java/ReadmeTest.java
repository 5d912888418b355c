import java.io.IOException;
import java.lang.reflect.Method;
import java.lang.reflect.Modifier;
import java.net.URL;
import java.net.URLClassLoader;
import java.nio.file.Files;
import java.nio.file.Path;
import java.util.ArrayList;
import java.util.List;
import java.util.regex.Matcher;
import java.util.regex.Pattern;
import java.util.stream.Stream;
import javax.tools.ToolProvider;

/** README.md: the Java in it compiles, its calls answer what stands behind them, and no call of the face is left out. */
public final class ReadmeTest {
    private static final Pattern BLOCK = Pattern.compile("(?s)```java\n(.*?)```");
    private static final Pattern ANSWERED = Pattern.compile("^(\\S.*\\));\\s*// (-?\\d+)\\b.*$");

    private static final List<String> CALLS = new ArrayList<>();
    private static final List<Long> DUE = new ArrayList<>();

    public static void main(String[] args) throws Exception {
        String readme = Files.readString(Path.of("README.md"));
        for (Method m : HarbourMud.class.getDeclaredMethods()) {
            if (Modifier.isPublic(m.getModifiers())) {
                Checks.yes("README.md tells of " + m.getName(), readme.contains("`" + m.getName() + "("));
            }
        }
        Path folder = Files.createTempDirectory("readme");
        try {
            answers(folder, sourceOf(readme));
        } finally {
            remove(folder);
        }
        tests(readme);
        Checks.end("ReadmeTest");
    }

    /** Blocks that begin with "static" are methods; in the others each line with a number behind it is a call to look at. */
    private static String sourceOf(String readme) {
        StringBuilder methods = new StringBuilder();
        StringBuilder lines = new StringBuilder();
        Matcher blocks = BLOCK.matcher(readme);
        while (blocks.find()) {
            if (blocks.group(1).startsWith("static ")) {
                methods.append(blocks.group(1));
            } else {
                blocks.group(1).lines().forEach(line -> lines.append(lineOf(line)).append('\n'));
            }
        }
        return "public class Example {\n" + methods + "public static java.util.List<Long> answers() {\n"
            + "java.util.List<Long> answers = new java.util.ArrayList<>();\n" + lines + "return answers;\n}\n}\n";
    }

    private static String lineOf(String line) {
        Matcher answered = ANSWERED.matcher(line);
        if (!answered.matches()) {
            return line;
        }
        CALLS.add(answered.group(1));
        DUE.add(Long.valueOf(answered.group(2)));
        return "answers.add((long) " + answered.group(1) + ");";
    }

    private static void answers(Path folder, String source) throws Exception {
        Path file = Files.writeString(folder.resolve("Example.java"), source);
        int wrong = ToolProvider.getSystemJavaCompiler().run(null, null, null, "--release", "17", "-proc:none", "-cp",
            System.getProperty("java.class.path"), "-d", folder.toString(), file.toString());
        Checks.due("README.md's Java compiles", wrong, 0);
        if (wrong != 0) {
            return;
        }
        try (URLClassLoader loader = new URLClassLoader(new URL[] {folder.toUri().toURL()})) {
            List<?> got = (List<?>) loader.loadClass("Example").getMethod("answers").invoke(null);
            Checks.yes("many calls are answered", got.size() > 40 && got.size() == DUE.size());
            for (int i = 0; i < got.size() && i < DUE.size(); i++) {
                Checks.due(CALLS.get(i), (Long) got.get(i), DUE.get(i));
            }
        }
    }

    private static void remove(Path folder) throws IOException {
        List<Path> files = new ArrayList<>();
        try (Stream<Path> list = Files.list(folder)) {
            list.forEach(files::add);
        }
        for (Path file : files) {
            Files.delete(file);
        }
        Files.delete(folder);
    }

    /** Each test has its row. */
    private static void tests(String readme) throws IOException {
        try (Stream<Path> list = Files.list(Path.of("src/test/java"))) {
            list.map(file -> file.getFileName().toString()).filter(name -> name.endsWith("Test.java")).forEach(name ->
                Checks.yes("README.md tells of " + name, readme.contains("| " + name.replace(".java", "") + " |")));
        }
    }
}
