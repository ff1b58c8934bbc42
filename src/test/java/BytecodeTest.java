import java.io.PrintWriter;
import java.io.StringWriter;
import java.util.ArrayList;
import java.util.HashSet;
import java.util.List;
import java.util.Map;
import java.util.Set;
import java.util.TreeMap;
import java.util.TreeSet;
import java.util.regex.Matcher;
import java.util.regex.Pattern;
import java.util.spi.ToolProvider;

/** What of ../shared/LANGUAGE.md can be seen from the bytecode: what is called, how deep, and what is made where. */
public final class BytecodeTest {
    private static final String CLASSES = System.getProperty("java.class.path");
    private static final Set<String> LIBRARY = Set.of(
        "java/lang/Object.<init>", "java/lang/System.arraycopy", "java/util/Arrays.fill", "java/lang/Math.min",
        "java/lang/Math.max", "java/lang/Math.abs");
    // Rule 8: the methods that may call one another again, each with a depth that is carried along.
    private static final Set<String> RECURSIVE = Set.of(
        "PigNinths$Reader.either", "PigNinths$Reader.both", "PigNinths$Reader.compared", "PigNinths$Reader.added",
        "PigNinths$Reader.multiplied", "PigNinths$Reader.single", "PigNinths$Reader.enclosed",
        "PigNinths$Voices.own", "PigNinths$Voices.above", "PigNinths$Voices.from", "PigNinths$Voices.workedOut");
    private static final int DEEPEST = 8;
    private static final Pattern METHOD = Pattern.compile("^ {2}(?! )(?:[\\w$\\[\\].]+ )*([\\w$]+)\\(.*\\);$");
    private static final Pattern STEP = Pattern.compile("^ +\\d+: (\\w+)(?: .*)?$");
    private static final Pattern CALLED =
        Pattern.compile("// (?:Interface)?Method (?:([\\w$/]+)\\.)?\"?([\\w<>$]+)\"?:");

    private static int wrong = 0;

    private BytecodeTest() {
    }

    private static void need(boolean is, String what) {
        if (!is) {
            wrong++;
            System.out.println(what);
        }
    }

    public static void main(String[] args) {
        if (ToolProvider.findFirst("javap").isEmpty()) {
            System.out.println("this java has no javap: not looked at");
            return;
        }
        Map<String, Set<String>> calls = new TreeMap<>();
        for (String name : classes()) {
            read(name, calls);
        }
        need(calls.size() > 100, "only " + calls.size() + " methods are seen");
        Set<String> again = new TreeSet<>();
        for (String method : calls.keySet()) {
            if (reached(method, calls).contains(method)) {
                again.add(method);
            }
        }
        need(again.equals(new TreeSet<>(RECURSIVE)), "call themselves again: " + again);
        int deepest = 0;
        for (String method : calls.keySet()) {
            deepest = Math.max(deepest, deep(method, calls));
        }
        need(deepest <= DEEPEST, "calls go " + deepest + " deep");
        System.out.println(wrong == 0 ? "the rules are kept, calls go " + deepest + " deep" : wrong + " rules are broken");
        if (wrong != 0) {
            System.exit(1);
        }
    }

    private static List<String> classes() {
        List<String> names = new ArrayList<>();
        names.add("PigNinths");
        for (Class<?> each : PigNinths.class.getDeclaredClasses()) {
            names.add(each.getName());
        }
        return names;
    }

    private static String[] bytecode(String name) {
        ToolProvider javap = ToolProvider.findFirst("javap").orElseThrow();
        StringWriter out = new StringWriter();
        javap.run(new PrintWriter(out), new PrintWriter(System.out), "-p", "-c", "-cp", CLASSES, name);
        return out.toString().split("\\R");
    }

    /** Adds each method of a class with those of its own that it calls; looks at each step of it. */
    private static void read(String name, Map<String, Set<String>> calls) {
        String method = "";
        for (String line : bytecode(name)) {
            Matcher begun = METHOD.matcher(line);
            Matcher step = STEP.matcher(line);
            if (begun.matches()) {
                method = name + "." + (begun.group(1).equals(name) ? "<init>" : begun.group(1));
                need(calls.put(method, new TreeSet<>()) == null, "two methods of one name: " + method);
            } else if (line.equals("  static {};")) {
                method = name + ".<clinit>";
                calls.put(method, new TreeSet<>());
            } else if (step.matches()) {
                step(step.group(1), method, line);
                Matcher called = CALLED.matcher(line);
                if (called.find()) {
                    called(called, name, calls.get(method));
                }
            }
            need(!line.contains("Exception table"), "catches: " + method);
        }
    }

    private static void step(String code, String method, String line) {
        boolean makes = code.equals("new") || code.endsWith("newarray");
        need(!makes || method.endsWith("init>"), "makes something outside of a constructor: " + method);
        need(!code.matches("athrow|invokedynamic|monitor\\w+|checkcast"), code + " in " + method + ":" + line);
        need(!code.matches("[fd](add|sub|mul|div|rem|load|store|const).*"), "not of whole numbers: " + method);
        need(!code.equals("putstatic") || method.endsWith(".<clinit>"), "sets what is static: " + method);
    }

    private static void called(Matcher called, String name, Set<String> own) {
        String where = called.group(1) == null ? name : called.group(1);
        String method = where + "." + called.group(2);
        if (where.startsWith("PigNinths")) {
            own.add(method);
        } else {
            need(LIBRARY.contains(method), "library: " + method);
        }
    }

    private static Set<String> reached(String from, Map<String, Set<String>> calls) {
        Set<String> seen = new HashSet<>();
        List<String> open = new ArrayList<>(calls.get(from));
        while (!open.isEmpty()) {
            String next = open.remove(open.size() - 1);
            if (seen.add(next)) {
                open.addAll(calls.get(next));
            }
        }
        return seen;
    }

    /** How many calls stand open at once from a method on, those that are recursion not counted. */
    private static int deep(String from, Map<String, Set<String>> calls) {
        Set<String> group = new TreeSet<>();
        if (RECURSIVE.contains(from)) {
            group.addAll(reached(from, calls));
            group.retainAll(RECURSIVE);
        } else {
            group.add(from);
        }
        int most = 0;
        for (String each : group) {
            for (String next : calls.get(each)) {
                most = group.contains(next) ? most : Math.max(most, deep(next, calls));
            }
        }
        return most + (RECURSIVE.contains(from) ? 0 : 1);
    }
}
