import java.io.IOException;
import java.lang.reflect.Field;
import java.lang.reflect.Method;
import java.lang.reflect.Modifier;
import java.nio.file.Files;
import java.nio.file.Path;

/** What README.md says of the use of the class must be so. */
public final class ReadmeTest {
    private static final Checks CHECKS = new Checks("ReadmeTest");

    public static void main(String[] args) throws IOException, IllegalAccessException {
        String readme = Files.readString(Path.of("README.md"));
        example();
        everyCallIsNamed(readme);
        everyConstantIsNamed(readme);
        everyTestIsNamed(readme);
        CHECKS.end();
    }

    private static void example() {
        QuorumLog x = new QuorumLog(3, 4, 8);
        CHECKS.due("timeout", x.timeout(0), 0);
        CHECKS.due("the ASK to 1", x.slot(0), Runs.message(1, 0, 1, 1));
        CHECKS.due("the ASK to 2", x.slot(1), Runs.message(1, 0, 2, 1));
        CHECKS.due("deliver the ASK", x.deliver(0), 1);
        CHECKS.due("the VOTE", x.slot(0), Runs.message(2, 1, 0, 1));
        CHECKS.due("deliver the VOTE", x.deliver(0), 2);
        CHECKS.due("a leader", x.role(0), 6);
        CHECKS.due("propose", x.propose(0, 7), 1);
        CHECKS.due("heartbeat", x.heartbeat(0, 1), 3);
        CHECKS.due("the APPEND", x.slot(0), Runs.message(3, 0, 1, 1));
        CHECKS.due("deliver the APPEND", x.deliver(0), 3);
        CHECKS.due("node 1 has it", x.commandAt(1, 1), 7);
        CHECKS.due("the APPENDED", x.slot(0), Runs.message(4, 1, 0, 1));
        CHECKS.due("deliver the APPENDED", x.deliver(0), 4);
        CHECKS.due("commit", x.commit(0), 1);
        CHECKS.due("state", x.state(0), 7);
    }

    private static void everyCallIsNamed(String readme) {
        for (Method m : QuorumLog.class.getDeclaredMethods()) {
            boolean open = Modifier.isPublic(m.getModifiers());
            CHECKS.holds("that it names " + m.getName(), !open || readme.contains("`" + m.getName() + "("));
        }
    }

    private static void everyConstantIsNamed(String readme) throws IllegalAccessException {
        for (Field f : QuorumLog.class.getDeclaredFields()) {
            if (Modifier.isPublic(f.getModifiers())) {
                String row = "| `" + f.getName() + "` (" + f.getInt(null) + ") |";
                CHECKS.holds("that it has '" + row + "'", readme.contains(row));
            }
        }
    }

    private static void everyTestIsNamed(String readme) throws IOException {
        try (var files = Files.list(Path.of("src/test/java"))) {
            files.map(file -> file.getFileName().toString().replace(".java", ""))
                .forEach(name -> CHECKS.holds("that it names " + name, readme.contains("`" + name + "`")));
        }
    }
}
