import java.io.IOException;
import java.nio.file.Files;
import java.nio.file.Path;
import java.util.ArrayList;
import java.util.List;

/** The public face, read from the document: its calls, in their order, with what each of them may throw. */
final class Face {
    /** One call, as its line in the document tells it. */
    record Call(String line) {
        String name() {
            String ahead = line.substring(0, line.indexOf('('));
            return ahead.substring(ahead.lastIndexOf(' ') + 1);
        }

        /** As it is written by who calls it: then(map, step). */
        String written() {
            List<String> names = new ArrayList<>();
            for (String parameter : parameters().split(", ")) {
                names.add(parameter.substring(parameter.indexOf(' ') + 1));
            }
            return name() + "(" + String.join(", ", names) + ")";
        }

        /** Their names, in the order of the document. */
        List<String> exceptions() {
            List<String> names = new ArrayList<>();
            int at = line.indexOf(" throws ");
            if (at >= 0) {
                names.addAll(List.of(line.substring(at + " throws ".length(), line.length() - 1).split(", ")));
            }
            return names;
        }

        private String parameters() {
            return line.substring(line.indexOf('(') + 1, line.indexOf(')'));
        }
    }

    private static final Path DOCUMENT = Path.of("../shared/DOC.md");
    private static final String AHEAD = "Ahead of the calls ";
    private static final String SAYS = " the interface says: ---- ";

    private Face() {
    }

    /** All calls but the constructor. */
    static List<Call> calls() throws IOException {
        List<Call> calls = new ArrayList<>();
        for (String line : Files.readAllLines(DOCUMENT)) {
            if (line.startsWith("    public ") && !line.startsWith("    public Bijectory(")) {
                calls.add(new Call(line.trim()));
            }
        }
        return calls;
    }

    /** Each headline of the interface, with the names of the calls that it stands ahead of behind it. */
    static List<List<String>> headlines() throws IOException {
        List<List<String>> headlines = new ArrayList<>();
        for (String line : Files.readAllLines(DOCUMENT)) {
            int says = line.indexOf(SAYS);
            if (line.startsWith(AHEAD) && says > 0) {
                List<String> headline = new ArrayList<>();
                headline.add(line.substring(says + SAYS.length(), line.length() - 1));
                String names = line.substring(AHEAD.length(), says).replace("`", "");
                headline.addAll(List.of(names.split(", ")));
                headlines.add(headline);
            }
        }
        return headlines;
    }
}
