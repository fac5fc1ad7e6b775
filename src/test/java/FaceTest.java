import java.io.IOException;
import java.lang.reflect.Constructor;
import java.lang.reflect.Field;
import java.lang.reflect.Method;
import java.lang.reflect.Modifier;
import java.nio.file.Files;
import java.nio.file.Path;
import java.util.Arrays;
import java.util.HashSet;
import java.util.List;
import java.util.Set;
import java.util.TreeSet;
import java.util.regex.Matcher;
import java.util.regex.Pattern;

/** The face is the document's, and the source keeps to what LANGUAGE.md says of words. */
public final class FaceTest {
    private static final String I = "IndexOutOfBoundsException";
    private static final String A = "IllegalArgumentException";
    private static final String S = "IllegalStateException";
    private static final String[] FACE = {
        "int size(int) " + A, "int map(int) " + A + " " + S, "int then(int, int) " + I + " " + A + " " + S,
        "int walker(int, int) " + I + " " + A + " " + S, "int claim(int, int, int) " + I + " " + A + " " + S,
        "int send(int, int, int) " + I + " " + A + " " + S, "boolean trial(int) " + I, "int objects(int) " + I,
        "int unrank(int, int) " + I, "int rank(int, int) " + I, "int statistic(int, int, int) " + I + " " + A,
        "int spread(int, int, int) " + I + " " + A, "int signs(int, int) " + I + " " + A,
        "boolean alike(int, int, int, int) " + I + " " + A, "int contains(int, int) " + I + " " + A,
        "int sorted(int) " + A, "int ofMap(int, int) " + I + " " + A, "int image(int, int) " + I,
        "int source(int, int) " + I, "int rounds(int) " + I, "long period(int) " + I,
        "int against(int, int, int) " + I + " " + A, "boolean cancels(int, int) " + I + " " + A,
        "int ofWalker(int, int) " + I + " " + A, "int ofClaim(int, int) " + I + " " + A, "int many(int) " + A,
        "double mean(int, int) " + I + " " + A, "long digest()"
    };
    private static final String[] NOT_IN_SOURCE = {
        "Exact(", "->", "::", "synchronized", "assert ", "finally", "catch", "import", "package", "System.out",
        "Random", "Thread", "nanoTime", "currentTimeMillis"
    };

    public static void main(String[] args) throws IOException {
        face();
        faceOfTheDocument();
        members();
        order(Files.readString(Path.of("src/main/java/Bijectory.java")));
        constructors(Files.readString(Path.of("src/main/java/Bijectory.java")));
        source(Files.readString(Path.of("src/main/java/Bijectory.java")));
        Check.end();
    }

    private static String told(Method method) {
        StringBuilder told = new StringBuilder(method.getReturnType() + " " + method.getName() + "(");
        for (int i = 0; i < method.getParameterCount(); i++) {
            told.append(i > 0 ? ", " : "").append(method.getParameterTypes()[i]);
        }
        told.append(")");
        for (Class<?> thrown : method.getExceptionTypes()) {
            told.append(" ").append(thrown.getSimpleName());
        }
        return told.toString();
    }

    private static void face() {
        Set<String> found = new TreeSet<>();
        for (Method method : Bijectory.class.getDeclaredMethods()) {
            if (Modifier.isPublic(method.getModifiers())) {
                found.add(told(method));
            }
        }
        Check.due("public methods", new TreeSet<>(Arrays.asList(FACE)), () -> found);
        Check.due("class", Modifier.PUBLIC | Modifier.FINAL, Bijectory.class::getModifiers);
        Constructor<?>[] made = Bijectory.class.getDeclaredConstructors();
        Check.due("constructors", 1, () -> made.length);
        Check.due("constructor", Modifier.PUBLIC, () -> made[0].getModifiers());
        Check.due("its parameters", 0, () -> made[0].getParameterCount());
    }

    private static void faceOfTheDocument() throws IOException {
        List<Face.Call> calls = Face.calls();
        Check.due("calls of the document", FACE.length, calls::size);
        for (int number = 0; number < Math.min(FACE.length, calls.size()); number++) {
            Face.Call call = calls.get(number);
            String thrown = String.join(" ", call.exceptions());
            String due = FACE[number];
            Check.due("name of call " + number, due.substring(due.indexOf(' ') + 1, due.indexOf('(')), call::name);
            Check.due("what " + call.name() + " throws", due.substring(due.indexOf(')') + 1).trim(), () -> thrown);
        }
    }

    /** The calls stand in the source as in the document, with its parameters and behind its headlines. */
    private static void order(String text) throws IOException {
        String source = text.replaceAll("\\s+", " ");
        int[] at = {0};
        for (Face.Call call : Face.calls()) {
            String line = call.line().replace(";", " {");
            int found = source.indexOf(line);
            int ahead = at[0];
            Check.due("the source holds, behind those ahead of it: " + line, true, () -> found > ahead);
            at[0] = Math.max(ahead, found);
        }
        List<List<String>> headlines = Face.headlines();
        Check.due("headlines of the document", 4, headlines::size);
        for (List<String> headline : headlines) {
            int title = source.indexOf("// ---- " + headline.get(0) + " ");
            Check.due("the headline: " + headline.get(0), true, () -> title > 0);
            for (String name : headline.subList(1, headline.size())) {
                Check.due(name + " stands behind " + headline.get(0), headline.get(0), () -> headlineOf(source, name));
            }
        }
    }

    private static String headlineOf(String source, String name) {
        String ahead = source.split("public [a-z]+ " + name + "\\(")[0];
        String behind = ahead.substring(ahead.lastIndexOf("// ---- ") + "// ---- ".length());
        return behind.split(" /\\*\\*")[0];
    }

    private static void members() {
        Set<String> open = new HashSet<>();
        for (Method method : Bijectory.class.getDeclaredMethods()) {
            if (Modifier.isPublic(method.getModifiers())) {
                open.add(method.getName());
            }
        }
        List<Class<?>> inside = List.of(Bijectory.class.getDeclaredClasses());
        Check.due("at most twelve classes", true, () -> inside.size() < 12);
        for (Method method : Bijectory.class.getDeclaredMethods()) {
            boolean hidden = Modifier.isPrivate(method.getModifiers());
            Check.due(method + " is of the face or private, and its name is free", true,
                () -> hidden != open.contains(method.getName()));
        }
        for (Field field : Bijectory.class.getDeclaredFields()) {
            Check.due(field + " is private", true, () -> Modifier.isPrivate(field.getModifiers()));
            staticIsFinal(field);
        }
        for (Class<?> one : inside) {
            Check.due(one + " is static", true, () -> Modifier.isStatic(one.getModifiers()));
            for (Field field : one.getDeclaredFields()) {
                staticIsFinal(field);
            }
        }
    }

    private static void staticIsFinal(Field field) {
        int is = field.getModifiers();
        Check.due(field + " is final, if static", true, () -> !Modifier.isStatic(is) || Modifier.isFinal(is));
    }

    /** LANGUAGE.md, rule 12: a constructor hands out nothing of the object that it makes, its rows too. */
    private static void constructors(String text) {
        Matcher made = Pattern.compile("(?ms)^( *)(?:public |private )?[A-Z]\\w*\\([^)]*\\) \\{$(.*?)^\\1\\}$")
            .matcher(text);
        int found = 0;
        while (made.find()) {
            String body = made.group(2);
            found++;
            Check.due("a constructor hands out its object: " + body, false,
                () -> Pattern.compile("[(,] ?this[),]").matcher(body).find());
            Matcher row = Pattern.compile("(\\w+) = new ").matcher(body);
            while (row.find()) {
                String name = row.group(1);
                Check.due("a constructor hands out " + name, false,
                    () -> Pattern.compile("[(,] ?" + name + "[),]").matcher(body).find());
            }
        }
        int all = found;
        Check.due("constructors that are written out", 6, () -> all);
    }

    private static void source(String text) {
        for (String word : NOT_IN_SOURCE) {
            Check.due("the source holds " + word, false, () -> text.contains(word));
        }
        Check.due("characters of 1 to 127 alone", true, () -> text.chars().allMatch(sign -> sign < 128));
    }
}
