import java.io.IOException;
import java.nio.file.Files;
import java.nio.file.Path;
import java.util.ArrayList;
import java.util.List;

/**
 * The sentences of the document that name an edge, each with a test of its own. A sentence that the document does not
 * hold (any more), one whose test asks nothing, and a line of a promise without a test are faults.
 */
final class Sentences {
    /** The part of the document ahead of the first promise. */
    static final int TERMS = 0;
    private static final Path DOCUMENT = Path.of("../shared/DOC.md");
    private static final String[] LINES_THAT_NEED_A_TEST = {"Throws ", "Returns "};
    private static final List<String> TOLD = new ArrayList<>();

    private Sentences() {
    }

    static void holds(int promise, String sentence, Runnable test) {
        Check.due("promise " + promise + " says: " + sentence, true, () -> part(promise).contains(sentence));
        TOLD.add(promise + " " + sentence);
        int before = Check.asked();
        Check.under(sentence);
        Check.due("the test goes to its end", true, () -> goes(test));
        Check.under("");
        int after = Check.asked() - 1;
        Check.due("a test asks something of: " + sentence, true, () -> after > before);
    }

    private static boolean goes(Runnable test) {
        test.run();
        return true;
    }

    /** Each line of these promises that tells what is returned or thrown has had its test. */
    static void end(int... promises) {
        for (int promise : promises) {
            for (String line : part(promise).split("\n")) {
                if (needsTest(line)) {
                    Check.due("promise " + promise + " has a test of: " + line, true, () -> hasTest(promise, line));
                }
            }
        }
        Check.end();
    }

    private static boolean needsTest(String line) {
        for (String start : LINES_THAT_NEED_A_TEST) {
            if (line.startsWith(start)) {
                return true;
            }
        }
        return false;
    }

    private static boolean hasTest(int promise, String line) {
        for (String told : TOLD) {
            String start = promise + " ";
            if (told.startsWith(start) && line.contains(told.substring(start.length()))) {
                return true;
            }
        }
        return false;
    }

    private static String part(int promise) {
        String[] parts = document().split("\n## (?=Promise |Not promised)");
        if (promise == TERMS) {
            return parts[0];
        }
        for (String part : parts) {
            if (part.startsWith("Promise " + promise + ":")) {
                return part;
            }
        }
        return "";
    }

    private static String document() {
        try {
            return Files.readString(DOCUMENT);
        } catch (IOException e) {
            throw new IllegalStateException("the tests need " + DOCUMENT, e);
        }
    }
}
