import java.io.File;
import java.io.IOException;
import java.io.PrintStream;
import java.lang.reflect.Method;
import java.lang.reflect.Modifier;
import java.net.URL;
import java.net.URLClassLoader;
import java.nio.file.Files;
import java.nio.file.Path;
import java.util.Comparator;
import java.util.List;
import java.util.regex.Matcher;
import java.util.regex.Pattern;
import java.util.stream.Stream;
import javax.tools.JavaCompiler;
import javax.tools.ToolProvider;

/**
 * README.md: its Java, joined to one program, compiles as it stands and answers what stands behind it;
 * it shows every call, and names every test. Run from the project's folder.
 */
public final class ReadmeTest {
    private static final Path README = Path.of("README.md"), TESTS = Path.of("src/test/java");
    private static final Pattern BLOCK = Pattern.compile("(?s)```java\n(.*?)```");
    private static final Pattern ANSWERED = Pattern.compile("(?m)^staffs\\.(\\w+\\(.*\\)); +// (-?\\d+): .*$");
    private static final Pattern CALL = Pattern.compile("(?m)^staffs\\.\\w+\\(");

    public static void main(String[] args) throws Exception {
        String readme = Files.readString(README);
        String shown = shown(readme);
        everyCallAnswered(shown);
        everyCallShown(readme, shown);
        everyTestNamed(readme);
        run(program(shown));
        Checks.end();
    }

    private static String shown(String readme) {
        StringBuilder code = new StringBuilder();
        Matcher matcher = BLOCK.matcher(readme);
        while (matcher.find()) {
            code.append(matcher.group(1));
        }
        return code.toString();
    }

    private static void everyCallAnswered(String shown) {
        Checks.due("calls shown without an answer",
            CALL.matcher(shown).results().count() - ANSWERED.matcher(shown).results().count(), 0);
    }

    private static void everyCallShown(String readme, String shown) {
        for (Method method : DanceStaffs.class.getDeclaredMethods()) {
            if (Modifier.isPublic(method.getModifiers())) {
                String call = method.getName() + "(";
                Checks.isTrue(call + " is not shown", shown.contains("staffs." + call));
                Checks.isTrue(call + " is not in the list of calls", readme.contains("`" + call));
            }
        }
    }

    private static void everyTestNamed(String readme) throws IOException {
        try (Stream<Path> files = Files.list(TESTS)) {
            for (Path file : files.toList()) {
                String name = file.getFileName().toString().replace(".java", "");
                boolean isNamed = readme.contains("| `" + name + "` |");
                Checks.isTrue(name + " is not named", isNamed || !name.endsWith("Test"));
            }
        }
        Matcher named = Pattern.compile("(?m)^\\| `(\\w+Test)` \\|").matcher(readme);
        while (named.find()) {
            Path file = TESTS.resolve(named.group(1) + ".java");
            Checks.isTrue("there is no " + file, Files.exists(file));
        }
    }

    /** The shown code with each answer that it tells held against the one that comes. */
    private static String program(String shown) {
        String checked = ANSWERED.matcher(shown).replaceAll(found -> Matcher.quoteReplacement(
            "told(\"" + found.group(1).replace("\"", "\\\"") + "\", staffs." + found.group(1) + ", "
                + found.group(2) + ");"));
        return "public final class Shown {\n"
            + "static void told(String call, int got, int want) {\n"
            + "if (got != want) { System.out.println(\"README.md: \" + call + \" answered \" + got + \", it says \" + want);\n"
            + "wrong++; } }\n"
            + "public static int wrong = 0;\n"
            + "public static void show() {\n" + checked + "}\n}\n";
    }

    private static void run(String program) throws Exception {
        JavaCompiler compiler = ToolProvider.getSystemJavaCompiler();
        Checks.isTrue("there is no compiler", compiler != null);
        if (compiler == null) {
            return;
        }
        Path folder = Files.createTempDirectory("readme");
        try {
            Path source = folder.resolve("Shown.java");
            Files.writeString(source, program);
            PrintStream out = System.out;
            int answer = compiler.run(null, out, out, "-cp", System.getProperty("java.class.path"),
                "-d", folder.toString(), source.toString());
            Checks.due("javac of what README.md shows", answer, 0);
            if (answer == 0) {
                Checks.due("answers of README.md that are not as it says", wrongAnswers(folder), 0);
            }
        } finally {
            delete(folder);
        }
    }

    private static int wrongAnswers(Path folder) throws Exception {
        try (URLClassLoader loader = new URLClassLoader(new URL[] {folder.toUri().toURL()},
            ReadmeTest.class.getClassLoader())) {
            Class<?> shown = loader.loadClass("Shown");
            shown.getMethod("show").invoke(null);
            return shown.getField("wrong").getInt(null);
        }
    }

    private static void delete(Path folder) throws IOException {
        try (Stream<Path> files = Files.walk(folder)) {
            List<File> all = files.sorted(Comparator.reverseOrder()).map(Path::toFile).toList();
            for (File file : all) {
                Checks.isTrue(file + " can not be deleted", file.delete());
            }
        }
    }
}
