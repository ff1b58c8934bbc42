import java.io.IOException;
import java.nio.file.Files;
import java.nio.file.Path;
import java.util.HashSet;
import java.util.List;
import java.util.Map;
import java.util.Set;
import java.util.TreeMap;
import java.util.regex.Matcher;
import java.util.regex.Pattern;
import java.util.stream.Collectors;
import java.util.stream.Stream;

/** Each promise and each term of the document has boundary cases, each case a name of its own. */
public final class CoverageTest {
    private static final Path TESTS = Path.of("src/test/java");
    private static final int PROMISES = 37;
    private static final List<String> TERMS = List.of("termErrors", "term1", "term2", "term3", "term4", "term5");
    private static final Pattern CASE = Pattern.compile("static void ((promise\\d\\d|term\\w+?)_\\w+)\\(\\)");

    private CoverageTest() {
    }

    private static List<String> sources() throws IOException {
        try (Stream<Path> files = Files.list(TESTS)) {
            List<Path> tests = files.filter(file -> file.toString().endsWith("Test.java")).collect(Collectors.toList());
            StringBuilder all = new StringBuilder();
            for (Path file : tests) {
                all.append(Files.readString(file)).append('\n');
            }
            return List.of(all.toString().split("\n"));
        }
    }

    public static void main(String[] args) throws IOException {
        Map<String, Integer> cases = new TreeMap<>();
        Set<String> names = new HashSet<>();
        int wrong = 0;
        for (String line : sources()) {
            Matcher found = CASE.matcher(line);
            if (found.find()) {
                cases.merge(found.group(2), 1, Integer::sum);
                if (!names.add(found.group(1))) {
                    wrong++;
                    System.out.println("two cases are named " + found.group(1));
                }
            }
        }
        for (int promise = 1; promise <= PROMISES; promise++) {
            wrong += has(cases, String.format("promise%02d", promise)) ? 0 : 1;
        }
        for (String term : TERMS) {
            wrong += has(cases, term) ? 0 : 1;
        }
        System.out.println(names.size() + " boundary cases of " + cases.size() + " promises and terms");
        if (wrong != 0) {
            System.exit(1);
        }
    }

    private static boolean has(Map<String, Integer> cases, String what) {
        // The least number of cases: one inside, one outside.
        boolean enough = cases.getOrDefault(what, 0) >= 2;
        if (!enough) {
            System.out.println(what + " has less than two boundary cases");
        }
        return enough;
    }
}
