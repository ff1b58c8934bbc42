import java.io.IOException;
import java.lang.reflect.Constructor;
import java.lang.reflect.Field;
import java.lang.reflect.Method;
import java.lang.reflect.Modifier;
import java.nio.charset.StandardCharsets;
import java.nio.file.Files;
import java.nio.file.Path;
import java.util.Arrays;
import java.util.HashSet;
import java.util.List;
import java.util.Set;
import java.util.regex.Matcher;
import java.util.regex.Pattern;

/** What of ../shared/LANGUAGE.md can be seen from the source and the compiled classes. */
public final class LanguageTest {
    private static final Path SOURCE = Path.of("src/main/java/PigNinths.java");
    private static final String FACE =
        "int oak(int, int, int);int oakIs(int, int);int rain(int);int farmer(int, int);int farmerIs(int, int);"
        + "int as(int, int);int trade(int, int);int leash(int, int, int);int pig(int, int);int feed(long, int);"
        + "int text(int);int untell(int);int days(int);int draws(int);int seed(int);int then(int, int, int);"
        + "int ahead(int, int);int bestLeash(int);int bestFeed(int);int gain(int, int);int bestTrade();"
        + "int share(int, int, int);int whoHid(int, int, int);int voice(int, int, int);int body(int);"
        + "int sheet(int, int, int);int put(int, int, int);int move(int, int, int, int, int);int unders(int);"
        + "int judge(int);int image();int restore();int tell(int);int check();int count(int);int told(int)";
    private static final String[] FORBIDDEN = {
        "throw", "throws", "try", "catch", "finally", "synchronized", "assert", "package", "volatile", "transient",
        "native", "strictfp", "yield", "var", "Object", "System.out", "hashCode", "toString", "Thread", "Random",
        "nanoTime", "currentTimeMillis",
    };
    private static final Set<String> LIBRARY = Set.of(
        "System.arraycopy", "Arrays.fill", "Arrays.copyOf", "Arrays.copyOfRange", "Math.min", "Math.max", "Math.abs",
        "Math.floorDiv", "Math.floorMod");

    private static int wrong = 0;

    private LanguageTest() {
    }

    private static void need(boolean is, String what) {
        if (!is) {
            wrong++;
            System.out.println(what);
        }
    }

    public static void main(String[] args) throws IOException {
        String source = Files.readString(SOURCE, StandardCharsets.ISO_8859_1);
        String code = source.replaceAll("(?s)/\\*.*?\\*/", "").replaceAll("//[^\n]*", "");
        words(source, code);
        face();
        for (Class<?> c : classes()) {
            parts(c);
        }
        lengths(code);
        System.out.println(wrong == 0 ? "the rules that can be seen are kept" : wrong + " rules are broken");
        if (wrong != 0) {
            System.exit(1);
        }
    }

    private static List<Class<?>> classes() {
        Class<?>[] inside = PigNinths.class.getDeclaredClasses();
        Class<?>[] all = Arrays.copyOf(inside, inside.length + 1);
        all[inside.length] = PigNinths.class;
        return List.of(all);
    }

    private static void words(String source, String code) {
        need(source.chars().allMatch(c -> c == '\n' || c >= 32 && c < 127), "a sign that is not plain");
        String bare = code.replaceAll("'(\\\\.|[^'])'", "' '");
        for (String word : FORBIDDEN) {
            need(!Pattern.compile("(?<![\\w.])" + Pattern.quote(word) + "(?!\\w)").matcher(bare).find(), "word: " + word);
        }
        need(!bare.contains("->") && !bare.contains("::"), "a lambda or a method reference");
        need(!bare.contains("\""), "a text, though none is needed");
        need(!bare.contains("@"), "an annotation");
        Matcher imports = Pattern.compile("import ([\\w.*]+)").matcher(bare);
        while (imports.find()) {
            need(imports.group(1).equals("java.util.Arrays"), "import: " + imports.group(1));
        }
        Matcher library = Pattern.compile("\\b(System|Arrays|Math|Integer|Long|Character|String)\\.\\w+").matcher(bare);
        while (library.find()) {
            need(LIBRARY.contains(library.group()) || library.group().startsWith("java."), "library: " + library.group());
        }
    }

    private static String signed(Method m) {
        String types = Arrays.toString(m.getParameterTypes());
        return m.getReturnType() + " " + m.getName() + "(" + types.substring(1, types.length() - 1) + ")";
    }

    private static void face() {
        Class<?> c = PigNinths.class;
        need(Modifier.isPublic(c.getModifiers()) && Modifier.isFinal(c.getModifiers()), "public final");
        need(c.getPackageName().isEmpty(), "a package");
        Set<String> due = new HashSet<>(List.of(FACE.split(";")));
        Set<String> names = new HashSet<>();
        for (Method m : c.getDeclaredMethods()) {
            if (Modifier.isPublic(m.getModifiers())) {
                need(due.remove(signed(m)), "not of the face: " + m);
                names.add(m.getName());
                need(!Modifier.isStatic(m.getModifiers()), "static: " + m);
            } else {
                need(Modifier.isPrivate(m.getModifiers()), "not private: " + m);
            }
        }
        need(due.isEmpty(), "missing: " + due);
        for (Constructor<?> made : c.getDeclaredConstructors()) {
            need(Modifier.isPublic(made.getModifiers()) && made.getParameterCount() == 0, "constructor: " + made);
        }
        for (Field f : c.getDeclaredFields()) {
            need(Modifier.isPrivate(f.getModifiers()), "not private: " + f);
        }
        for (Class<?> each : classes()) {
            for (Method m : each.getDeclaredMethods()) {
                need(Modifier.isPublic(m.getModifiers()) || !names.contains(m.getName()), "a name of the face: " + m);
            }
        }
    }

    private static void parts(Class<?> c) {
        need(c.getDeclaredClasses().length == 0 || c == PigNinths.class, "classes inside " + c);
        need(c == PigNinths.class || Modifier.isStatic(c.getModifiers()), "not static: " + c);
        int fields = 0;
        for (Field f : c.getDeclaredFields()) {
            if (Modifier.isStatic(f.getModifiers())) {
                need(Modifier.isFinal(f.getModifiers()), "static, not final: " + f);
                Class<?> t = f.getType();
                need(t.isPrimitive() || t == int[].class || t == char[].class, "static: " + f);
            } else {
                fields++;
            }
        }
        need(fields <= 20, "fields of " + c + ": " + fields);
        for (Method m : c.getDeclaredMethods()) {
            need(m.getParameterCount() <= 7, "parameters of " + m);
        }
        need(classes().size() <= 12, "classes");
    }

    /** Methods by their indentation: they begin with four or eight blanks and end with a brace alone. */
    private static void lengths(String code) {
        String[] lines = code.split("\n");
        for (int i = 0; i < lines.length; i++) {
            Matcher begun = Pattern.compile("^( {4}| {8})(?! )[\\w\\[\\] ]+\\(.*\\{$").matcher(lines[i]);
            if (begun.matches()) {
                int end = i;
                while (end < lines.length - 1 && !lines[end].equals(begun.group(1) + "}")) {
                    end++;
                }
                need(end - i < 60, "lines " + (i + 1) + " to " + (end + 1) + ": a long method");
            }
        }
    }
}
