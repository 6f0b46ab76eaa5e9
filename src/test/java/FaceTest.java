import java.io.IOException;
import java.lang.reflect.Constructor;
import java.lang.reflect.Field;
import java.lang.reflect.Method;
import java.lang.reflect.Modifier;
import java.nio.file.Files;
import java.nio.file.Path;
import java.util.Arrays;
import java.util.TreeSet;

/** The document's face, and the rules of LANGUAGE.md that can be looked at from outside. */
final class FaceTest {
    private static final String FACE = "public boolean fail(int, int); public boolean recover(); public int account(int, int); "
            + "public int copies(int); public int entry(int, int); public int journal(); public int octet(int); "
            + "public int put(long, int); public int queue(int); public int report(int, int); public int send(); "
            + "public int submit(); public int tick(int); public int transaction(int, int); public int work()";

    static void run(Check check) throws IOException {
        check.group("the face");
        methods(check);
        rest(check);
        check.group("LANGUAGE.md");
        source(check, Files.readString(Path.of("src/main/java/PaymentHub.java")));
    }

    private static void methods(Check check) {
        TreeSet<String> open = new TreeSet<>();
        TreeSet<String> names = new TreeSet<>();
        for (Method m : PaymentHub.class.getDeclaredMethods()) {
            if (!Modifier.isPrivate(m.getModifiers())) {
                String parameters = Arrays.toString(m.getParameterTypes()).replace("[", "(").replace("]", ")");
                open.add(Modifier.toString(m.getModifiers()) + " " + m.getReturnType() + " " + m.getName() + parameters);
                names.add(m.getName());
            }
        }
        check.due("methods", String.join("; ", open), FACE);
        int shared = 0;
        for (Class<?> c : PaymentHub.class.getDeclaredClasses()) {
            for (Method m : c.getDeclaredMethods()) {
                shared += names.contains(m.getName()) ? 1 : 0;
            }
            check.due(c + " is static", Modifier.isStatic(c.getModifiers()), true);
        }
        check.due("methods inside with a name of the face", shared, 0);
        check.due("classes inside", PaymentHub.class.getDeclaredClasses().length <= 12, true);
    }

    private static void rest(Check check) {
        StringBuilder fields = new StringBuilder();
        for (Field f : PaymentHub.class.getDeclaredFields()) {
            if (!Modifier.isPrivate(f.getModifiers())) {
                fields.append(f).append("; ");
            }
        }
        check.due("fields", fields.toString(),
                "public static final int PaymentHub.DOWN; public static final int PaymentHub.NONE; ");
        Constructor<?>[] constructors = PaymentHub.class.getDeclaredConstructors();
        check.due("constructors", Arrays.toString(constructors), "[public PaymentHub(int,int)]");
        check.due("class", Modifier.toString(PaymentHub.class.getModifiers()), "public final");
    }

    private static void source(Check check, String source) {
        String[] unwanted = {"import ", "package ", "catch", "try ", "throw", "->", "::", "synchronized", "assert", "finally",
            "System.", "Exact", "Object", "instanceof", "null"};
        for (String word : unwanted) {
            check.due("source has '" + word + "'", source.contains(word), false);
        }
        int longest = 0;
        int begin = 0;
        String[] lines = source.split("\n");
        for (int i = 0; i < lines.length; i++) {
            if (lines[i].matches(" {4,8}[a-z].*\\) \\{")) {
                begin = i;
            }
            if (lines[i].matches(" {4,8}}")) {
                longest = Math.max(longest, i - begin);
            }
        }
        check.due("the longest method has some sixty lines", longest <= 60, true);
    }
}
