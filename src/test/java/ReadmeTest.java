import java.io.IOException;
import java.lang.reflect.Method;
import java.lang.reflect.Modifier;
import java.nio.charset.StandardCharsets;
import java.nio.file.Files;
import java.nio.file.Path;
import java.util.ArrayList;
import java.util.List;

/**
 * What README.md says of the use holds: its example stands here, too, and its table has every call.
 * It is run, as all tests are, in the folder in which README.md lies.
 */
final class ReadmeTest {

    private static final Path README = Path.of("README.md");
    private static final Path THIS = Path.of("src/test/java/ReadmeTest.java");

    private static final Check check = new Check();

    public static void main(String[] args) throws IOException {
        example();
        sameExample();
        everyCallIsInTheTable();
        check.close();
    }

    private static void example() {
        // ```java
        TerminalYard yard = new TerminalYard();
        int machine = yard.addMachine(0, 1, 2); // pool 0, room 1, 2 seats
        yard.buy(0, 50);                        // the department 0, where all users are at first
        int session = yard.logIn(3, 0);         // the user 3, in the pool 0
        yard.pass(5);                           // 5 minutes, each charged to the user's department
        yard.print(session, 2);                 // 2 pages, 2 minutes each
        yard.takeOver(session, 7);              // the user 7 has it, whose department pays
        yard.drain(machine);                    // takes no new sessions
        char draining = yard.machine(machine);  // 'g', as a session is live there
        yard.handBack(session);
        int charged = yard.logOut(session);     // 9
        char empty = yard.machine(machine);     // 'm', in repair
        yard.putUp(machine);                    // takes sessions again
        // ```
        check.letter(draining, 'g');
        check.due(charged, 9);
        check.letter(empty, 'm');
        check.due(yard.logIn(3, 0), 1);
    }

    private static void sameExample() throws IOException {
        String told = String.join("\n", between(README, "```java", "```"));
        check.text(told.isEmpty() ? "no example" : "", "");
        check.text(told, String.join("\n", between(THIS, "// ```java", "// ```")));
    }

    /** The lines, without the blanks around them, between the first two that are these. */
    private static List<String> between(Path file, String first, String last) throws IOException {
        List<String> found = new ArrayList<>();
        boolean inside = false;
        for (String line : Files.readAllLines(file, StandardCharsets.UTF_8)) {
            String words = line.strip();
            if (inside && words.equals(last)) {
                break;
            }
            if (inside) {
                found.add(words);
            }
            inside = inside || words.equals(first);
        }
        return found;
    }

    private static void everyCallIsInTheTable() throws IOException {
        String table = String.join("\n", between(README, "| call | answers |", "## Tests"));
        for (Method method : TerminalYard.class.getDeclaredMethods()) {
            if (Modifier.isPublic(method.getModifiers())) {
                String call = "`" + method.getName() + "(";
                int at = table.indexOf(call);
                check.text(at < 0 ? "not in the table: " + call : "", "");
                check.due(at < 0 ? -1 : argumentsAt(table, at), method.getParameterCount());
            }
        }
    }

    private static int argumentsAt(String table, int call) {
        int open = table.indexOf('(', call);
        int close = table.indexOf(')', open);
        String arguments = close < 0 ? "" : table.substring(open + 1, close);
        return arguments.isEmpty() ? 0 : arguments.split(", ").length;
    }
}
