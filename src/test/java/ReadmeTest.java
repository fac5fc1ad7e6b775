import java.io.IOException;
import java.nio.file.Files;
import java.nio.file.Path;
import java.util.ArrayList;
import java.util.HashSet;
import java.util.List;
import java.util.Set;

/** What README.md tells of the class holds. */
public final class ReadmeTest {
    private static final Path README = Path.of("README.md");
    private static final String HEAD = "| Call | Answers | Throws |";
    private static final Set<String> TOLD = new HashSet<>();

    public static void main(String[] args) throws IOException {
        List<String> lines = Files.readAllLines(README);
        example(exampleOf(lines));
        tables(lines);
        tests(lines);
        Check.end();
    }

    // ---- the example

    private static List<String> exampleOf(List<String> lines) {
        int first = lines.indexOf("```java") + 1;
        return lines.subList(first, first + lines.subList(first, lines.size()).indexOf("```"));
    }

    private static void example(List<String> lines) {
        Bijectory house = new Bijectory();
        says(lines, "house.size(5);", () -> house.size(5));
        says(lines, "int map = house.map(0);", () -> house.map(0));
        says(lines, "house.then(map, 3);", () -> house.then(0, 3));
        says(lines, "house.then(map, 2);", () -> house.then(0, 2));
        says(lines, "int walker = house.walker(0, 682);", () -> house.walker(0, 682));
        says(lines, "house.send(walker, map, 1);", () -> house.send(0, 0, 1));
        says(lines, "house.send(walker, map, 3);", () -> house.send(0, 0, 3));
        says(lines, "house.ofWalker(walker, 4);", () -> house.ofWalker(0, 4));
        says(lines, "house.objects(0);", () -> house.objects(0));
        says(lines, "house.unrank(0, 41);", () -> house.unrank(0, 41));
        says(lines, "house.rank(0, 683);", () -> house.rank(0, 683));
        says(lines, "house.image(map, 0);", () -> house.image(0, 0));
        says(lines, "house.ofMap(map, 3);", () -> house.ofMap(0, 3));
        says(lines, "house.rounds(map);", () -> house.rounds(0));
        says(lines, "house.period(map);", () -> house.period(0));
        says(lines, "int label = house.map(6);", () -> house.map(6));
        says(lines, "int claim = house.claim(label, 3, 0);", () -> house.claim(1, 3, 0));
        says(lines, "house.trial(claim);", () -> house.trial(0));
        says(lines, "house.against(label, 0, 0);", () -> house.against(1, 0, 0));
        says(lines, "house.contains(119, 321);", () -> house.contains(119, 321));
        says(lines, "house.sorted(1);", () -> house.sorted(1));
        says(lines, "house.mean(0, 1);", () -> house.mean(0, 1));
        says(lines, "house.then(label, 9);", () -> house.then(1, 9));
        says(lines, "house.map(11);", () -> house.map(11));
        says(lines, "house.image(2, 0);", () -> house.image(2, 0));
        for (String line : lines) {
            boolean makes = line.equals("Bijectory house = new Bijectory();");
            Check.due("the example's line is tried: " + line, true, () -> makes || TOLD.contains(line));
        }
    }

    /** The line of that code has the call's answer, or what it throws, behind it. */
    private static void says(List<String> lines, String code, Check.Call call) {
        String answer = Check.outcome(call).replace("throws.", "throws ");
        Check.due("README.md tells the answer of " + code, answer, () -> {
            for (String line : lines) {
                if (line.startsWith(code + " ")) {
                    TOLD.add(line);
                    String told = line.substring(line.indexOf("// ") + "// ".length());
                    return told.split(": ")[0];
                }
            }
            return "no such line";
        });
    }

    // ---- the tables

    private static void tables(List<String> lines) throws IOException {
        List<String> rows = new ArrayList<>();
        for (String line : lines) {
            if (line.startsWith("| `")) {
                rows.add(line);
            }
        }
        List<Face.Call> calls = Face.calls();
        Check.due("as many rows as calls", calls.size(), rows::size);
        for (int number = 0; number < Math.min(calls.size(), rows.size()); number++) {
            Face.Call call = calls.get(number);
            String[] cells = rows.get(number).split(" \\| ?");
            Check.due("the row of " + call.name(), "| `" + call.written() + "`", () -> cells[0]);
            Check.due("what " + call.name() + " throws", letters(call.exceptions()), () -> throwsOf(cells));
        }
        List<String> titles = new ArrayList<>();
        for (int number = 2; number < lines.size(); number++) {
            if (lines.get(number).equals(HEAD)) {
                titles.add(lines.get(number - 2).replace("### W", "w"));
            }
        }
        List<String> due = new ArrayList<>();
        for (List<String> headline : Face.headlines()) {
            due.add(headline.get(0));
        }
        Check.due("the tables' titles", due, () -> titles);
    }

    private static String letters(List<String> exceptions) {
        StringBuilder letters = new StringBuilder();
        for (String exception : exceptions) {
            letters.append(exception.replace("Illegal", "").charAt(0));
        }
        return letters.toString();
    }

    private static String throwsOf(String[] cells) {
        StringBuilder letters = new StringBuilder();
        String told = cells.length > 2 ? cells[2] : "";
        for (String part : told.split("; ")) {
            if (part.matches("[IAS]: .*")) {
                letters.append(part.charAt(0));
            }
        }
        return letters.toString();
    }

    // ---- the tests

    private static void tests(List<String> lines) throws IOException {
        String text = String.join("\n", lines);
        try (var files = Files.list(Path.of("src/test/java"))) {
            for (Path file : files.sorted().toList()) {
                String name = file.getFileName().toString().replace(".java", "");
                Check.due("README.md tells of " + name, true, () -> text.contains("`" + name + "`"));
            }
        }
    }
}
