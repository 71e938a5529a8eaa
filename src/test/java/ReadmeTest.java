import java.io.IOException;
import java.io.InputStream;
import java.lang.reflect.Field;
import java.lang.reflect.Method;
import java.lang.reflect.Modifier;
import java.nio.file.DirectoryStream;
import java.nio.file.Files;
import java.nio.file.Path;
import java.util.ArrayList;
import java.util.List;
import java.util.regex.Matcher;
import java.util.regex.Pattern;

/** README.md names all of the public face and every test, and its example prints what stands there. */
public final class ReadmeTest {
    private static final Path README = Path.of("README.md");
    private static final Path TESTS = Path.of("src/test/java");
    private static final String EXAMPLE = "Example.java";

    public static void main(String[] args) throws IOException, InterruptedException, IllegalAccessException {
        Due due = new Due();
        String text = Files.readString(README);
        constants(due, text);
        methods(due, text);
        tests(due, text);
        commands(due, text);
        example(due, text);
        due.end();
    }

    private static void constants(Due due, String text) throws IllegalAccessException {
        for (Field f : EnclaveWarden.class.getFields()) {
            String row = "| `" + f.getName() + " = " + f.getInt(null) + "` | ";
            due.yes("a row of README.md begins " + row, text.contains("\n" + row));
        }
    }

    private static void methods(Due due, String text) {
        due.yes("a row of README.md has the constructor", text.contains("\n| `EnclaveWarden(int secret)` | "));
        for (Method m : EnclaveWarden.class.getDeclaredMethods()) {
            if (Modifier.isPublic(m.getModifiers())) {
                Pattern row = Pattern.compile("\n\\| `" + shape(m) + "` \\| [^ |]");
                due.is("rows of README.md with " + m.getName(), row.matcher(text).results().count(), 1);
            }
        }
    }

    private static String shape(Method m) {
        List<String> parameters = new ArrayList<>();
        for (Class<?> type : m.getParameterTypes()) {
            parameters.add(type.getName() + " \\w+");
        }
        return m.getReturnType().getName() + " " + m.getName() + "\\(" + String.join(", ", parameters) + "\\)";
    }

    private static void tests(Due due, String text) throws IOException {
        try (DirectoryStream<Path> files = Files.newDirectoryStream(TESTS, "*.java")) {
            for (Path file : files) {
                String name = file.getFileName().toString();
                boolean test = name.endsWith("Test.java");
                String words = test ? "\n| " + name.replace(".java", "") + " | " : "`" + name + "` ";
                due.yes("README.md names " + name, text.contains(words));
            }
        }
    }

    private static void commands(Due due, String text) {
        due.yes("README.md says how to run the tests", text.contains("\n    .ci/run\n"));
        due.yes(".ci/run can be run", Files.isExecutable(Path.of(".ci/run")));
        due.yes("README.md says how to run the example", text.contains(" && java -cp out " + EXAMPLE + "\n"));
    }

    private static void example(Due due, String text) throws IOException, InterruptedException {
        List<String> code = block(text, "java");
        List<String> printed = block(text, "text");
        due.yes("README.md has an example", code.size() > 1 && printed.size() > 1);
        Path folder = Files.createTempDirectory("readme");
        Path file = folder.resolve(EXAMPLE);
        Files.write(file, code);
        due.same("the example prints", run(file), printed);
        Files.delete(file);
        Files.delete(folder);
    }

    private static List<String> block(String text, String kind) {
        Matcher m = Pattern.compile("(?s)\n```" + kind + "\n(.*?)\n```\n").matcher(text);
        return m.find() ? m.group(1).lines().toList() : List.of();
    }

    // As README.md says it, with the classes where this test found them.
    private static List<String> run(Path file) throws IOException, InterruptedException {
        String java = Path.of(System.getProperty("java.home"), "bin", "java").toString();
        ProcessBuilder command = new ProcessBuilder(java, "-cp", System.getProperty("java.class.path"), file.toString());
        Process process = command.redirectErrorStream(true).start();
        List<String> lines = new ArrayList<>();
        try (InputStream out = process.getInputStream()) {
            lines.addAll(new String(out.readAllBytes()).lines().toList());
        }
        int code = process.waitFor();
        if (code != 0) {
            lines.add("exit code " + code);
        }
        return lines;
    }
}
