import java.io.IOException;
import java.lang.reflect.InvocationTargetException;
import java.lang.reflect.Method;
import java.lang.reflect.Modifier;
import java.nio.file.Files;
import java.nio.file.Path;
import java.util.Arrays;
import java.util.Comparator;
import java.util.Set;
import java.util.TreeSet;

/** Which sentence of the document is being tested, and what of it did not hold. */
final class Sentence {
    private static final Path DOCUMENT = Path.of("../shared/DOC.md");

    private static final Set<Integer> promises = new TreeSet<>();
    private static String document;
    private static String current;
    private static int compared;
    private static int wrong;

    private Sentence() {
    }

    /** The sentence has to stand in the document word for word, so that a test can not name one that is not there. */
    static void of(int promise, String words) {
        current = "promise " + promise + ", \"" + words + "\"";
        compared = 0;
        promises.add(promise);
        if (document != null && !document.contains(words)) {
            fault("these words do not stand in the document");
        }
    }

    static void due(String what, Object got, Object want) {
        compared++;
        if (!got.equals(want)) {
            fault(what + " is " + got + ", due is " + want);
        }
    }

    static void fault(String what) {
        wrong++;
        System.out.println(current + ": " + what);
    }

    /** Runs each test of a class: its static methods without parameters. The promises named must be first to last. */
    static void runAll(Class<?> tests, int first, int last) throws IOException, IllegalAccessException {
        if (Files.exists(DOCUMENT)) {
            document = Files.readString(DOCUMENT).replaceAll("\\s+", " ");
        }
        Method[] methods = tests.getDeclaredMethods();
        Arrays.sort(methods, Comparator.comparing(Method::getName));
        int ran = 0;
        for (Method m : methods) {
            if (Modifier.isStatic(m.getModifiers()) && !Modifier.isPrivate(m.getModifiers())
                && m.getParameterCount() == 0) {
                runOne(m);
                ran++;
            }
        }
        current = tests.getName();
        for (int promise = first; promise <= last; promise++) {
            due("a test of promise " + promise, promises.contains(promise), true);
        }
        System.out.println(wrong == 0 ? ran + " sentences hold" : wrong + " answers are not as due");
        if (wrong != 0) {
            System.exit(1);
        }
    }

    private static void runOne(Method test) throws IllegalAccessException {
        current = test.getName();
        compared = 0;
        try {
            test.invoke(null);
        } catch (InvocationTargetException e) {
            fault(test.getName() + " threw " + e.getCause());
        }
        if (current.equals(test.getName()) || compared == 0) {
            fault(test.getName() + " names no sentence or compares nothing");
        }
    }
}
