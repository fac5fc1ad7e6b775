import java.io.IOException;
import java.lang.reflect.Constructor;
import java.lang.reflect.Field;
import java.lang.reflect.Method;
import java.lang.reflect.Modifier;
import java.nio.file.Files;
import java.nio.file.Path;
import java.util.Arrays;
import java.util.HashSet;
import java.util.List;
import java.util.Set;
import java.util.TreeSet;

/** The face is the document's, and the source keeps to what LANGUAGE.md says of words. */
public final class FaceTest {
    private static final String I = "IndexOutOfBoundsException";
    private static final String A = "IllegalArgumentException";
    private static final String S = "IllegalStateException";
    private static final String[] FACE = {
        "int size(int) " + A, "int map(int) " + A + " " + S, "int then(int, int) " + I + " " + A + " " + S,
        "int walker(int, int) " + I + " " + A + " " + S, "int claim(int, int, int) " + I + " " + A + " " + S,
        "int send(int, int, int) " + I + " " + A + " " + S, "boolean trial(int) " + I, "int objects(int) " + I,
        "int unrank(int, int) " + I, "int rank(int, int) " + I, "int statistic(int, int, int) " + I + " " + A,
        "int spread(int, int, int) " + I + " " + A, "int signs(int, int) " + I + " " + A,
        "boolean alike(int, int, int, int) " + I + " " + A, "int contains(int, int) " + I + " " + A,
        "int sorted(int) " + A, "int ofMap(int, int) " + I + " " + A, "int image(int, int) " + I,
        "int source(int, int) " + I, "int rounds(int) " + I, "long period(int) " + I,
        "int against(int, int, int) " + I + " " + A, "boolean cancels(int, int) " + I + " " + A,
        "int ofWalker(int, int) " + I + " " + A, "int ofClaim(int, int) " + I + " " + A, "int many(int) " + A,
        "double mean(int, int) " + I + " " + A, "long digest()"
    };
    private static final String[] NOT_IN_SOURCE = {
        "Exact(", "->", "::", "synchronized", "assert ", "finally", "catch", "import", "package", "System.out",
        "Random", "Thread", "nanoTime", "currentTimeMillis"
    };

    public static void main(String[] args) throws IOException {
        face();
        members();
        source(Files.readString(Path.of("src/main/java/Bijectory.java")));
        Check.end();
    }

    private static String told(Method method) {
        StringBuilder told = new StringBuilder(method.getReturnType() + " " + method.getName() + "(");
        for (int i = 0; i < method.getParameterCount(); i++) {
            told.append(i > 0 ? ", " : "").append(method.getParameterTypes()[i]);
        }
        told.append(")");
        for (Class<?> thrown : method.getExceptionTypes()) {
            told.append(" ").append(thrown.getSimpleName());
        }
        return told.toString();
    }

    private static void face() {
        Set<String> found = new TreeSet<>();
        for (Method method : Bijectory.class.getDeclaredMethods()) {
            if (Modifier.isPublic(method.getModifiers())) {
                found.add(told(method));
            }
        }
        Check.due("public methods", new TreeSet<>(Arrays.asList(FACE)), () -> found);
        Check.due("class", Modifier.PUBLIC | Modifier.FINAL, Bijectory.class::getModifiers);
        Constructor<?>[] made = Bijectory.class.getDeclaredConstructors();
        Check.due("constructors", 1, () -> made.length);
        Check.due("constructor", Modifier.PUBLIC, () -> made[0].getModifiers());
        Check.due("its parameters", 0, () -> made[0].getParameterCount());
    }

    private static void members() {
        Set<String> open = new HashSet<>();
        for (Method method : Bijectory.class.getDeclaredMethods()) {
            if (Modifier.isPublic(method.getModifiers())) {
                open.add(method.getName());
            }
        }
        List<Class<?>> inside = List.of(Bijectory.class.getDeclaredClasses());
        Check.due("at most twelve classes", true, () -> inside.size() < 12);
        for (Method method : Bijectory.class.getDeclaredMethods()) {
            boolean hidden = Modifier.isPrivate(method.getModifiers());
            Check.due(method + " is of the face or private, and its name is free", true,
                () -> hidden != open.contains(method.getName()));
        }
        for (Field field : Bijectory.class.getDeclaredFields()) {
            Check.due(field + " is private", true, () -> Modifier.isPrivate(field.getModifiers()));
            staticIsFinal(field);
        }
        for (Class<?> one : inside) {
            Check.due(one + " is static", true, () -> Modifier.isStatic(one.getModifiers()));
            for (Field field : one.getDeclaredFields()) {
                staticIsFinal(field);
            }
        }
    }

    private static void staticIsFinal(Field field) {
        int is = field.getModifiers();
        Check.due(field + " is final, if static", true, () -> !Modifier.isStatic(is) || Modifier.isFinal(is));
    }

    private static void source(String text) {
        for (String word : NOT_IN_SOURCE) {
            Check.due("the source holds " + word, false, () -> text.contains(word));
        }
        Check.due("characters of 1 to 127 alone", true, () -> text.chars().allMatch(sign -> sign < 128));
    }
}
