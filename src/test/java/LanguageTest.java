import java.io.IOException;
import java.nio.file.Files;
import java.nio.file.Path;
import java.util.List;
import java.util.regex.Matcher;
import java.util.regex.Pattern;

/** Those rules of ../shared/LANGUAGE.md that can be seen in the source's words; run from the project's folder. */
public final class LanguageTest {
    private static final Path SOURCE = Path.of("src/main/java/DanceStaffs.java");
    private static final List<String> NEVER = List.of("\\bthrow\\b", "\\bthrows\\b", "\\btry\\b", "\\bcatch\\b",
        "\\bfinally\\b", "\\bsynchronized\\b", "\\bassert\\b", "->", "::", "\\bimport\\b", "\\bpackage\\b",
        "\\bprotected\\b", "\\bvar\\b", "Exact\\b", "\\bSystem\\.(?!arraycopy\\b)", "\\bstatic\\s*\\{",
        "\\bObject\\b", "\\bhashCode\\b", "\\btoString\\b", "\\bequals\\b", "\\bwhile\\s*\\(\\s*true");
    private static final int MOST_LINES = 60, MOST_PARAMETERS = 7, MOST_CLASSES = 12;

    public static void main(String[] args) throws IOException {
        String code = withoutComments(Files.readString(SOURCE));
        for (String word : NEVER) {
            Checks.isTrue("the source has " + word, !Pattern.compile(word).matcher(code).find());
        }
        Checks.isTrue("signs beyond 127", code.chars().allMatch(sign -> sign < 128));
        Checks.isTrue("too many classes", count("\\bclass\\b", code) <= MOST_CLASSES);
        Checks.due("classes that are not static", count("(?<!static final |public final )class\\b", code), 0);
        Checks.due("new objects in methods", count("(?m)^ {8,}(?!private ).*\\bnew\\b", code), 0);
        methods(code);
        Checks.end();
    }

    private static String withoutComments(String source) {
        return source.replaceAll("(?s)/\\*.*?\\*/", "").replaceAll("//[^\n]*", "");
    }

    private static int count(String pattern, String code) {
        return (int) Pattern.compile(pattern).matcher(code).results().count();
    }

    private static void methods(String code) {
        Matcher matcher = Pattern.compile("(?m)^( +)[\\w ]*\\b(\\w+)\\(([^()]*)\\) \\{$").matcher(code);
        int methods = 0;
        while (matcher.find()) {
            String name = matcher.group(2);
            if (List.of("if", "for", "while", "switch").contains(name)) {
                continue;
            }
            methods++;
            int end = code.indexOf("\n" + matcher.group(1) + "}", matcher.end());
            long lines = code.substring(matcher.start(), Math.max(end, matcher.start())).lines().count() + 1;
            Checks.isTrue(name + " has an end", end >= 0);
            Checks.isTrue(name + " has " + lines + " lines", lines <= MOST_LINES);
            Checks.isTrue(name + " has too many parameters", matcher.group(3).split(",").length <= MOST_PARAMETERS);
        }
        Checks.isTrue("methods are found: " + methods, methods > 20);
    }
}
