import java.io.IOException;
import java.lang.reflect.Constructor;
import java.lang.reflect.Executable;
import java.lang.reflect.Field;
import java.lang.reflect.Method;
import java.lang.reflect.Modifier;
import java.nio.file.Files;
import java.nio.file.Path;
import java.util.Set;
import java.util.TreeSet;

/** The public face and its constants, and the rules of LANGUAGE.md that a program can look at. */
public final class FaceTest {
    private static final Checks CHECKS = new Checks("FaceTest");

    private static final Set<String> FACE = Set.of(
        "timeout(int)", "heartbeat(int,int)", "propose(int,int)", "compact(int)", "deliver(int)", "drop(int)",
        "duplicate(int)", "crash(int)", "restart(int)", "role(int)", "term(int)", "vote(int)", "base(int)",
        "last(int)", "commit(int)", "termAt(int,int)", "commandAt(int,int)", "state(int)", "peer(int,int)",
        "pending()", "slot(int)");
    private static final Set<String> CONSTANTS = Set.of("BAD", "DOWN", "ROLE", "FULL", "EMPTY");

    private static final String[] FORBIDDEN = {
        "import ", "package ", "->", "::", "throw ", "try {", "catch (", "finally", "synchronized", "assert ",
        "float ", "double ", "public static void", "System.", "while (true)"};

    public static void main(String[] args) throws IOException {
        constants();
        theClass();
        membersOfTheFace();
        methodsInside();
        staticState();
        words();
        CHECKS.end();
    }

    private static void constants() {
        CHECKS.due("BAD", QuorumLog.BAD, -1);
        CHECKS.due("DOWN", QuorumLog.DOWN, -2);
        CHECKS.due("ROLE", QuorumLog.ROLE, -3);
        CHECKS.due("FULL", QuorumLog.FULL, -4);
        CHECKS.due("EMPTY", QuorumLog.EMPTY, -5);
    }

    private static void theClass() {
        int modifiers = QuorumLog.class.getModifiers();
        CHECKS.holds("the class is public and final", Modifier.isPublic(modifiers) && Modifier.isFinal(modifiers));
        Constructor<?>[] constructors = QuorumLog.class.getDeclaredConstructors();
        CHECKS.due("constructors", constructors.length, 1);
        CHECKS.holds("it is public", Modifier.isPublic(constructors[0].getModifiers()));
        Class<?>[] inside = QuorumLog.class.getDeclaredClasses();
        CHECKS.holds("some twelve classes at most", inside.length < 12);
        for (Class<?> c : inside) {
            int m = c.getModifiers();
            CHECKS.holds(c + " is static and not public", Modifier.isStatic(m) && !Modifier.isPublic(m));
            CHECKS.holds(c + " has some twenty fields at most", c.getDeclaredFields().length <= 20);
        }
    }

    private static void membersOfTheFace() {
        Set<String> open = new TreeSet<>();
        for (Method m : QuorumLog.class.getDeclaredMethods()) {
            if (!Modifier.isPrivate(m.getModifiers())) {
                open.add(signature(m));
                CHECKS.holds(m + " answers an int", m.getReturnType() == int.class);
                CHECKS.holds(m + " is public", Modifier.isPublic(m.getModifiers()));
            }
        }
        CHECKS.holds("the methods are those of the document: " + open, open.equals(FACE));
        Set<String> fields = new TreeSet<>();
        for (Field f : QuorumLog.class.getDeclaredFields()) {
            if (!Modifier.isPrivate(f.getModifiers())) {
                fields.add(f.getName());
            }
        }
        CHECKS.holds("the constants are those of the document: " + fields, fields.equals(CONSTANTS));
    }

    private static String signature(Method m) {
        StringBuilder text = new StringBuilder(m.getName()).append('(');
        for (Class<?> type : m.getParameterTypes()) {
            text.append(text.charAt(text.length() - 1) == '(' ? "" : ",").append(type.getName());
        }
        return text.append(')').toString();
    }

    private static void methodsInside() {
        for (Method m : QuorumLog.class.getDeclaredMethods()) {
            checkInside(m, Modifier.isPrivate(m.getModifiers()));
        }
        for (Class<?> c : QuorumLog.class.getDeclaredClasses()) {
            for (Method m : c.getDeclaredMethods()) {
                checkInside(m, true);
            }
        }
    }

    private static void checkInside(Executable m, boolean own) {
        CHECKS.holds(m + " takes seven parameters at most", m.getParameterCount() <= 7);
        boolean borrowed = FACE.stream().anyMatch(s -> s.startsWith(m.getName() + "("));
        CHECKS.holds(m + " does not bear the name of a public one", !own || !borrowed);
    }

    private static void staticState() {
        checkStatics(QuorumLog.class);
        for (Class<?> c : QuorumLog.class.getDeclaredClasses()) {
            checkStatics(c);
        }
    }

    private static void checkStatics(Class<?> c) {
        for (Field f : c.getDeclaredFields()) {
            int m = f.getModifiers();
            CHECKS.holds(f + " is final if it is static", !Modifier.isStatic(m) || Modifier.isFinal(m));
        }
    }

    private static void words() throws IOException {
        String source = Files.readString(Path.of("src/main/java/QuorumLog.java"));
        for (String word : FORBIDDEN) {
            CHECKS.holds("the source is free of '" + word + "'", !source.contains(word));
        }
    }
}
