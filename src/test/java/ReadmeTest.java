import java.io.IOException;
import java.nio.file.Files;
import java.nio.file.Path;
import java.util.ArrayList;
import java.util.List;
import java.util.Set;
import java.util.TreeSet;
import java.util.regex.Matcher;
import java.util.regex.Pattern;
import java.util.stream.Stream;

/** README.md is true: its example is run here line by line, and its tables name what is there. */
public final class ReadmeTest {
    private static final Check check = new Check("ReadmeTest");
    private static final Path TESTS = Path.of("src/test/java");
    private static final String BEGIN = "// the example begins", END = "// the example ends";

    public static void main(String[] args) throws IOException {
        String readme = Files.readString(Path.of("README.md"));
        example();
        check.holds("the example is the one that was run", told(readme).equals(run()));
        classes(readme);
        tests(readme);
        promises(readme);
        check.end();
    }

    private static int due(int want, int got) {
        check.due("an answer of the example", want, got);
        return got;
    }

    private static void example() {
        // the example begins
        MustDefendHim court = new MustDefendHim();
        int ann = due(0, court.person(5, 3));
        int bob = due(1, court.person(2, 8));
        due(3, court.wins(10 * ann + bob, 0));
        due(1, court.hold(10 * ann + bob, 0));
        due(1, court.of(ann, 4));
        due(-5, court.hold(10 * ann + bob, 1));
        for (char c : "6+a-d-b+n%3".toCharArray()) {
            court.feed(c);
        }
        due(1, court.law());
        due(1, court.feed('+'));
        due(-100, court.law());
        due(1, court.row(0, 0, 6));
        due(1, court.put(0, 0, bob));
        due(1, court.put(0, 1, ann));
        due(1, court.put(0, 2, 1));
        due(1, court.put(0, 3, ann));
        due(1, court.put(0, 4, bob));
        due(1, court.put(0, 5, 0));
        due(2, court.course(0, -1));
        due(1, court.course(0, ann));
        due(243055, court.ends(0, ann, 0));
        due(1, court.put(0, 5, -1));
        due(0, court.roll(0, 1));
        // the example ends
    }

    /** The lines of README.md's code, each answer that stands behind a call put around it. */
    private static List<String> told(String readme) {
        List<String> lines = new ArrayList<>();
        Matcher code = Pattern.compile("(?s)```java\n(.*?)```").matcher(readme);
        while (code.find()) {
            for (String line : code.group(1).split("\n")) {
                lines.add(line.strip().replaceAll("(court\\..*); +// (-?\\d+).*", "due($2, $1);"));
            }
        }
        return lines;
    }

    private static List<String> run() throws IOException {
        List<String> lines = new ArrayList<>();
        boolean within = false;
        for (String line : Files.readAllLines(TESTS.resolve("ReadmeTest.java"))) {
            String plain = line.strip();
            within = within && !plain.equals(END);
            if (within) {
                lines.add(plain);
            }
            within = within || plain.equals(BEGIN);
        }
        return lines;
    }

    private static Set<String> named(String readme, String pattern) {
        Set<String> names = new TreeSet<>();
        Matcher m = Pattern.compile(pattern).matcher(readme);
        while (m.find()) {
            names.add(m.group(1));
        }
        return names;
    }

    private static void classes(String readme) {
        int from = readme.indexOf("| class inside |");
        Set<String> told = named(readme.substring(from, readme.indexOf("## Tests")), "(?m)^\\| `(\\w+)`");
        Set<String> there = new TreeSet<>();
        for (Class<?> c : MustDefendHim.class.getDeclaredClasses()) {
            there.add(c.getSimpleName());
        }
        check.holds("the classes inside: " + there, told.equals(there));
    }

    private static void tests(String readme) throws IOException {
        Set<String> there = new TreeSet<>();
        try (Stream<Path> files = Files.list(TESTS)) {
            files.map(f -> f.getFileName().toString()).filter(f -> f.endsWith("Test.java"))
                    .forEach(f -> there.add(f.replace(".java", "")));
        }
        check.holds("the tests: " + there, named(readme, "`(\\w+Test)`").equals(there));
    }

    /** Each promise stands once in the table of the tests, and the test's own first line says so. */
    private static void promises(String readme) throws IOException {
        int[] times = new int[42];
        Matcher rows = Pattern.compile("(?m)^\\| `(\\w+)`.*\\| promises ([0-9to, ]+)").matcher(readme);
        while (rows.find()) {
            String numbers = rows.group(2).strip();
            String first = Files.readAllLines(TESTS.resolve(rows.group(1) + ".java")).get(0);
            check.holds(rows.group(1) + " says promises " + numbers,
                    first.replace(" and ", ", ").contains("Promises " + numbers));
            for (String part : numbers.split(", *")) {
                String[] ends = part.strip().split(" to ");
                for (int i = Integer.parseInt(ends[0]); i <= Integer.parseInt(ends[ends.length - 1]); i++) {
                    times[i]++;
                }
            }
        }
        for (int i = 1; i <= 41; i++) {
            check.due("promise " + i + " in the table", 1, times[i]);
        }
    }
}
