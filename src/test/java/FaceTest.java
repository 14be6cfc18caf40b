import java.io.IOException;
import java.lang.reflect.Constructor;
import java.lang.reflect.Field;
import java.lang.reflect.Method;
import java.lang.reflect.Modifier;
import java.nio.file.Files;
import java.nio.file.Path;
import java.util.Arrays;
import java.util.List;
import java.util.Set;
import java.util.TreeSet;

/** The class has the document's face and nothing beside it, and keeps to the rules that can be seen in its text. */
public final class FaceTest {
    private static final String[] METHODS = {
        "int begins()", "int node(int,int,int,int)", "int lengthens(int)", "int aligns(int)", "int steps(int)",
        "int marks()", "int fails()", "int of(int,int)", "int letter(int,int,int)", "int sum(int,int)",
        "int row(int,int,int)", "int count(int)", "int type(int)", "int clear()", "int does()", "int back()",
        "int told(int)", "long digest()"
    };
    private static final String[] CONSTANTS = {"NONE -1", "BAD -2", "NO -3", "FULL -4", "BARRIER 100"};
    private static final String BANNED = "\\b(import|throw|throws|try|catch|synchronized|assert|native|volatile)\\b"
        + "|->|::|Exact\\b|\\bnew [A-Za-z]+\\([^)]*\\) *\\{";

    private static int wrong = 0;

    public static void main(String[] args) throws IOException, IllegalAccessException {
        methods();
        constants();
        constructors();
        classesInside();
        text();
        System.out.println(wrong == 0 ? "the face is as told" : wrong + " faults of the face");
        if (wrong != 0) {
            System.exit(1);
        }
    }

    private static void due(String what, Object got, Object want) {
        if (!got.equals(want)) {
            wrong++;
            System.out.println(what + " is " + got + ", due is " + want);
        }
    }

    private static void methods() {
        Set<String> seen = new TreeSet<>();
        Set<String> publicNames = new TreeSet<>();
        Set<String> privateNames = new TreeSet<>();
        for (Method m : BarrierStreams.class.getDeclaredMethods()) {
            if (Modifier.isPrivate(m.getModifiers())) {
                privateNames.add(m.getName());
                continue;
            }
            publicNames.add(m.getName());
            String parameters = Arrays.toString(Arrays.stream(m.getParameterTypes()).map(Class::getName).toArray());
            String signature = m.getReturnType() + " " + m.getName()
                + parameters.replace('[', '(').replace(']', ')').replace(" ", "");
            seen.add((m.getModifiers() == Modifier.PUBLIC ? "" : "not plainly public: ") + signature);
        }
        due("methods", seen, new TreeSet<>(List.of(METHODS)));
        privateNames.retainAll(publicNames);
        due("private methods that bear a public one's name", privateNames, Set.of());
    }

    private static void constants() throws IllegalAccessException {
        Set<String> seen = new TreeSet<>();
        for (Field f : BarrierStreams.class.getDeclaredFields()) {
            int m = f.getModifiers();
            if (Modifier.isPublic(m) && Modifier.isStatic(m) && Modifier.isFinal(m) && f.getType() == int.class) {
                seen.add(f.getName() + " " + f.getInt(null));
            } else if (!Modifier.isPrivate(m)) {
                seen.add("not private: " + f.getName());
            }
        }
        due("constants", seen, new TreeSet<>(List.of(CONSTANTS)));
    }

    private static void constructors() {
        Constructor<?>[] all = BarrierStreams.class.getDeclaredConstructors();
        due("constructors", all.length, 1);
        due("constructor's modifiers", all[0].getModifiers(), Modifier.PUBLIC);
        due("constructor's parameters", all[0].getParameterCount(), 0);
        due("class's modifiers", BarrierStreams.class.getModifiers(), Modifier.PUBLIC | Modifier.FINAL);
        due("package", BarrierStreams.class.getPackageName(), "");
    }

    private static void classesInside() {
        Class<?>[] inside = BarrierStreams.class.getDeclaredClasses();
        due("few classes", inside.length < 12, true);
        for (Class<?> c : inside) {
            due(c.getName() + " is static", Modifier.isStatic(c.getModifiers()), true);
            due(c.getName() + " is seen inside alone", c.getModifiers() & (Modifier.PUBLIC | Modifier.PROTECTED), 0);
            Field[] declared = c.getDeclaredFields();
            long fields = Arrays.stream(declared).filter(f -> !Modifier.isStatic(f.getModifiers())).count();
            due(c.getName() + " has few fields", fields <= 20, true);
            for (Method m : c.getDeclaredMethods()) {
                due(m.getName() + " takes few parameters", m.getParameterCount() <= 7, true);
            }
        }
    }

    private static void text() throws IOException {
        String program = Files.readString(Path.of("src/main/java/BarrierStreams.java"));
        String bare = program.replaceAll("(?s)/\\*.*?\\*/", "").replaceAll("//[^\n]*", "");
        var matcher = java.util.regex.Pattern.compile(BANNED).matcher(bare);
        while (matcher.find()) {
            due("a word in the program", matcher.group(), "none of those that LANGUAGE.md rules out");
        }
    }
}
