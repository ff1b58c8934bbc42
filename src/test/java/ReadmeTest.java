import java.io.ByteArrayOutputStream;
import java.io.IOException;
import java.io.PrintStream;
import java.net.URL;
import java.net.URLClassLoader;
import java.nio.charset.StandardCharsets;
import java.nio.file.Files;
import java.nio.file.Path;
import java.util.ArrayList;
import java.util.List;
import java.util.regex.Matcher;
import java.util.regex.Pattern;
import java.util.stream.Collectors;
import java.util.stream.Stream;
import javax.tools.JavaCompiler;
import javax.tools.ToolProvider;

/** README.md: its program and its calls answer what it says, and it leaves out no act and no test. */
public final class ReadmeTest {
    private static final Path README = Path.of("README.md");
    private static final Path MADE = Path.of("build/readme");
    private static final Pattern BLOCK = Pattern.compile("```(java|text)\n(.*?)```", Pattern.DOTALL);
    private static final Pattern CALL = Pattern.compile("(x\\.\\w+\\(.*?\\)); *// -> (-?\\d+)( .*)?");
    private static final String PROGRAM = "public final class Example";
    private static final String[] ERRORS = {"BEYOND", "NONE", "STATE", "FULL", "KIND", "PARTED"};

    private static int wrong = 0;

    private ReadmeTest() {
    }

    private static void need(boolean is, String what) {
        if (!is) {
            wrong++;
            System.out.println(what);
        }
    }

    public static void main(String[] args) throws IOException, ReflectiveOperationException {
        String readme = Files.readString(README);
        List<String> programs = new ArrayList<>();
        List<String> calls = new ArrayList<>();
        List<String> printed = new ArrayList<>();
        Matcher block = BLOCK.matcher(readme);
        while (block.find()) {
            List<String> kind = block.group(2).startsWith(PROGRAM) ? programs : calls;
            (block.group(1).equals("text") ? printed : kind).add(block.group(2));
        }
        need(programs.size() == 1 && printed.size() == 1, "one program and what it prints");
        need(!calls.isEmpty(), "no calls with their answers");
        Files.createDirectories(MADE);
        need(output("Example", programs.get(0)).equals(printed.get(0)), "the program prints something else");
        String answers = output("Answers", callsAsProgram(calls));
        need(answers.isEmpty(), answers);
        namesAll(readme, calls.toString());
        System.out.println(wrong == 0 ? "README.md is as the class is" : wrong + " of README.md are wrong");
        if (wrong != 0) {
            System.exit(1);
        }
    }

    /** A program that prints each call whose answer is not the one that stands behind it. */
    private static String callsAsProgram(List<String> blocks) {
        StringBuilder s = new StringBuilder("public final class Answers {\n");
        s.append("static void due(String call, int got, int want) {\n");
        s.append("if (got != want) System.out.println(call + \" answered \" + got + \", README.md says \" + want); }\n");
        s.append("public static void main(String[] args) {\n");
        for (String block : blocks) {
            s.append("{\n");
            for (String line : block.split("\n")) {
                Matcher call = CALL.matcher(line);
                boolean answers = call.matches();
                need(answers || line.equals("PigNinths x = new PigNinths();"), "no call with its answer: " + line);
                if (answers) {
                    String text = "\"" + call.group(1) + "\"";
                    s.append("due(" + text + ", " + call.group(1) + ", " + call.group(2) + ");\n");
                } else {
                    s.append(line).append('\n');
                }
            }
            s.append("}\n");
        }
        return s.append("} }\n").toString();
    }

    private static String output(String name, String program) throws IOException, ReflectiveOperationException {
        Path file = MADE.resolve(name + ".java");
        Files.writeString(file, program);
        String classes = System.getProperty("java.class.path");
        JavaCompiler compiler = ToolProvider.getSystemJavaCompiler();
        if (compiler.run(null, null, null, "-cp", classes, "-d", MADE.toString(), file.toString()) != 0) {
            return name + " does not compile\n";
        }
        PrintStream out = System.out;
        ByteArrayOutputStream printed = new ByteArrayOutputStream();
        try (URLClassLoader loader = new URLClassLoader(new URL[] {MADE.toUri().toURL()})) {
            System.setOut(new PrintStream(printed, true, StandardCharsets.UTF_8));
            loader.loadClass(name).getMethod("main", String[].class).invoke(null, (Object) new String[0]);
        } finally {
            System.setOut(out);
        }
        return printed.toString(StandardCharsets.UTF_8).replace("\r\n", "\n");
    }

    private static void namesAll(String readme, String calls) throws IOException {
        for (String act : Face.NAMES) {
            need(readme.contains("`" + act + "("), "no row tells of " + act);
            need(calls.contains("x." + act + "("), "no call shows " + act);
        }
        for (int k = 1; k <= ERRORS.length; k++) {
            String row = "| " + k + " | " + ERRORS[k - 1] + " | " + (-1000000000 - k) + " |";
            need(readme.contains(row), "no row: " + row);
        }
        need(readme.contains("512 calls"), "the limit of 512 calls");
        try (Stream<Path> files = Files.list(Path.of("src/test/java"))) {
            List<String> tests = files.map(file -> file.getFileName().toString()).collect(Collectors.toList());
            for (String test : tests) {
                String name = test.replace(".java", "");
                // Of tests that are numbered, README.md names the first and the last.
                boolean numbered = name.matches("(Promise|Term)\\d.*");
                need(numbered || !name.endsWith("Test") || readme.contains("`" + name + "`"), "README.md has no " + name);
            }
        }
        Matcher named = Pattern.compile("`(\\w+Test)`").matcher(readme);
        while (named.find()) {
            need(Files.exists(Path.of("src/test/java", named.group(1) + ".java")), "there is no " + named.group(1));
        }
    }
}
