import java.io.IOException;
import java.nio.charset.StandardCharsets;
import java.nio.file.Files;
import java.nio.file.Path;
import java.util.ArrayList;
import java.util.LinkedHashSet;
import java.util.List;
import java.util.NoSuchElementException;
import java.util.Set;
import java.util.function.Consumer;
import java.util.function.Supplier;

/**
 * Ties tests to the sentences of the document: a test says first of which sentence it is, and at
 * the end each sentence that names an edge has to have one. The terms count as the promise 0.
 */
final class Sentences {

    static final int TERMS = 0;

    private static final int PROMISES = 29;
    private static final int DOCUMENT = 1;

    private final Check check;
    private final List<Set<String>> written = new ArrayList<>();
    private final List<Set<String>> tested = new ArrayList<>();

    /** The arguments are those of the test, the path of the document behind that of the class. */
    Sentences(Check check, String[] args) throws IOException {
        this.check = check;
        for (int promise = 0; promise <= PROMISES; promise++) {
            written.add(new LinkedHashSet<>());
            tested.add(new LinkedHashSet<>());
        }
        check.text(args.length > DOCUMENT ? "" : "no path of the document", "");
        if (args.length > DOCUMENT) {
            read(Files.readAllLines(Path.of(args[DOCUMENT]), StandardCharsets.UTF_8));
        }
    }

    /** Of which sentence the checks are that follow. */
    void says(int promise, String sentence) {
        check.about((promise == TERMS ? "terms: " : "promise " + promise + ": ") + sentence);
        check.text(written.get(promise).contains(sentence) ? "" : "not in the document: " + sentence, "");
        tested.get(promise).add(sentence);
    }

    void eachHasATest(int first, int last) {
        check.about("every sentence has a test");
        for (int promise = first; promise <= last; promise++) {
            check.text(written.get(promise).isEmpty() ? "no sentence of promise " + promise : "", "");
            for (String sentence : written.get(promise)) {
                boolean done = tested.get(promise).contains(sentence);
                check.text(done ? "" : "no test of promise " + promise + ": " + sentence, "");
            }
        }
    }

    /** Numbers out of a range: those next to it, and the least and the greatest that there are. */
    static int[] outside(int least, int most) {
        return new int[] {least - 1, most + 1, Integer.MIN_VALUE, Integer.MAX_VALUE};
    }

    void throwsArgument(Supplier<TerminalYard> made, Consumer<TerminalYard> call) {
        refuses(IllegalArgumentException.class, made, call);
    }

    void throwsState(Supplier<TerminalYard> made, Consumer<TerminalYard> call) {
        refuses(IllegalStateException.class, made, call);
    }

    void throwsIndex(Supplier<TerminalYard> made, Consumer<TerminalYard> call) {
        refuses(IndexOutOfBoundsException.class, made, call);
    }

    void throwsUnsupported(Supplier<TerminalYard> made, Consumer<TerminalYard> call) {
        refuses(UnsupportedOperationException.class, made, call);
    }

    void throwsNoSuchElement(Supplier<TerminalYard> made, Consumer<TerminalYard> call) {
        refuses(NoSuchElementException.class, made, call);
    }

    void throwsArithmetic(Supplier<TerminalYard> made, Consumer<TerminalYard> call) {
        refuses(ArithmeticException.class, made, call);
    }

    /** The call throws on a yard that is made anew for it, and leaves it as it was made. */
    private void refuses(
            Class<? extends RuntimeException> want,
            Supplier<TerminalYard> made,
            Consumer<TerminalYard> call) {
        TerminalYard yard = made.get();
        check.refused(want, () -> call.accept(yard));
        check.text(Light.on(yard), Light.on(made.get()));
    }

    private void read(List<String> lines) {
        int promise = -1;
        for (String line : lines) {
            if (line.startsWith("#")) {
                promise = promiseOf(line);
            } else if (promise == TERMS) {
                addTerms(line);
            } else if (promise > TERMS) {
                addPromise(promise, line);
            }
        }
    }

    private static int promiseOf(String heading) {
        if (heading.equals("## Terms")) {
            return TERMS;
        }
        if (heading.startsWith("## Promise ")) {
            return Integer.parseInt(heading.substring(11, heading.indexOf(':')));
        }
        return -1;
    }

    private void addTerms(String line) {
        // these tell the headings in the class, which FaceTest looks at
        if (line.isBlank() || line.startsWith("Ahead of the calls ")) {
            return;
        }
        for (String sentence : line.split("(?<=\\.) (?=[A-Z])")) {
            boolean heading = sentence.matches("[A-Z][a-z]+( and [a-z]+)?\\.");
            if (!heading) {
                written.get(TERMS).add(sentence);
            }
        }
    }

    private void addPromise(int promise, String line) {
        if (line.startsWith("`")) {
            written.get(promise).add(line.substring(line.indexOf("`: ") + 3));
        } else if (line.startsWith("- ")) {
            addParameter(promise, line.substring(2));
        } else if (!line.isBlank()) {
            written.get(promise).add(line);
        }
    }

    private void addParameter(int promise, String parameter) {
        // a machine or session has no range of its own; what there is not, a sentence of its own tells
        if (parameter.matches(".*[0-9].*")) {
            written.get(promise).add(parameter);
        }
    }
}
