import java.io.PrintWriter;
import java.io.StringWriter;
import java.util.ArrayList;
import java.util.HashMap;
import java.util.HashSet;
import java.util.List;
import java.util.Map;
import java.util.Set;
import java.util.TreeMap;
import java.util.regex.Matcher;
import java.util.regex.Pattern;
import java.util.spi.ToolProvider;

/**
 * Those rules of ../shared/LANGUAGE.md that are seen best in the compiled class: what is called (4), how
 * deep (8, 11), how many fields (11), where objects are made (12), nothing thrown or caught (6).
 */
public final class CompiledTest {
    private static final int MOST_DEEP = 8, MOST_FIELDS = 20;
    private static final Set<String> LIBRARY = Set.of("java/lang/Object.<init>", "java/lang/Math.max",
        "java/lang/Math.min", "java/lang/Math.abs", "java/lang/Math.floorMod", "java/lang/Integer.bitCount",
        "java/lang/Long.bitCount");
    private static final Set<String> NEVER = Set.of("athrow", "monitorenter", "monitorexit", "invokedynamic",
        "Exception table:", "multianewarray", "frem", "drem");

    private static final Pattern METHOD = Pattern.compile("^  (?=\\S)[\\w .$\\[\\]]*?([\\w.$]+)\\((.*)\\)(?: throws .*)?;$");
    private static final Pattern FIELD = Pattern.compile("^  \\S[^(]*;$");
    private static final Pattern CALLED = Pattern.compile("// (?:Interface)?Method (?:([\\w/$]+)\\.)?\"?([\\w<>]+)\"?:(\\(.*)$");

    // The calls of each method, by class, name and how many it takes told together.
    private static final Map<String, Set<String>> CALLS = new TreeMap<>();
    private static final Map<String, Integer> DEPTHS = new HashMap<>();

    public static void main(String[] args) {
        ToolProvider javap = ToolProvider.findFirst("javap").orElse(null);
        if (javap == null) {
            System.out.println("there is no javap in this Java: the compiled class is not looked at");
            return;
        }
        List<String> classes = new ArrayList<>(List.of("DanceStaffs"));
        for (Class<?> inside : DanceStaffs.class.getDeclaredClasses()) {
            classes.add(inside.getName());
        }
        for (String name : classes) {
            readClass(name, listing(javap, name));
        }
        Checks.isTrue("methods are found: " + CALLS.size(), CALLS.size() > 60);
        for (String method : CALLS.keySet()) {
            int depth = depth(method, new HashSet<>());
            Checks.isTrue(method + " goes " + depth + " deep", depth <= MOST_DEEP);
        }
        Checks.isTrue("the deepest is found", DEPTHS.values().stream().anyMatch(depth -> depth > 4));
        Checks.end();
    }

    private static String listing(ToolProvider javap, String name) {
        StringWriter told = new StringWriter();
        PrintWriter out = new PrintWriter(told);
        javap.run(out, out, "-p", "-c", "-cp", System.getProperty("java.class.path"), name);
        out.flush();
        return told.toString();
    }

    private static void readClass(String name, String listing) {
        String method = "";
        int fields = 0;
        for (String line : listing.split("\n")) {
            Matcher head = METHOD.matcher(line);
            if (head.matches()) {
                boolean makes = head.group(1).equals(name);
                int takes = head.group(2).isEmpty() ? 0 : head.group(2).split(",").length;
                method = name + "." + (makes ? "<init>" : head.group(1)) + "/" + takes;
                Checks.isTrue(method + " is there twice", CALLS.put(method, new HashSet<>()) == null);
            } else if (line.equals("  static {};")) {
                // The two written out arrays are filled here.
                method = name + ".<clinit>/0";
                CALLS.put(method, new HashSet<>());
            } else if (FIELD.matcher(line).matches()) {
                fields += line.contains(" static ") ? 0 : 1;
            } else {
                readLine(name, method, line.trim());
            }
        }
        Checks.isTrue(name + " has " + fields + " fields", fields <= MOST_FIELDS);
    }

    private static void readLine(String name, String method, String line) {
        for (String word : NEVER) {
            Checks.isTrue(method + " has " + word, !line.matches("(\\d+: )?" + word + "\\b.*|" + word));
        }
        boolean makes = line.matches("\\d+: (new|newarray|anewarray)\\b.*");
        Checks.isTrue(method + " makes an object: " + line, !makes || method.contains("init>"));
        Matcher called = CALLED.matcher(line);
        if (!line.contains("invoke") || !called.find()) {
            return;
        }
        String owner = called.group(1) == null ? name : called.group(1);
        if (owner.startsWith("DanceStaffs")) {
            CALLS.get(method).add(owner + "." + called.group(2) + "/" + takes(called.group(3)));
        } else {
            String used = owner + "." + called.group(2);
            Checks.isTrue(method + " calls " + used, LIBRARY.contains(used));
        }
    }

    private static int takes(String described) {
        String inside = described.substring(1, described.indexOf(')'));
        return inside.replaceAll("\\[*(L[^;]*;|[A-Z])", "x").length();
    }

    /** How many calls stand open at once, this one too. */
    private static int depth(String method, Set<String> open) {
        if (!CALLS.containsKey(method) || !open.add(method)) {
            Checks.isTrue(method + " is not known, or calls itself", false);
            return 0;
        }
        Integer known = DEPTHS.get(method);
        int deepest = 0;
        if (known == null) {
            for (String called : CALLS.get(method)) {
                deepest = Math.max(deepest, depth(called, open));
            }
            DEPTHS.put(method, deepest + 1);
        }
        open.remove(method);
        return known == null ? deepest + 1 : known;
    }
}
