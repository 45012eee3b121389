import java.io.IOException;
import java.lang.reflect.Constructor;
import java.lang.reflect.Field;
import java.lang.reflect.Method;
import java.lang.reflect.Modifier;
import java.nio.charset.StandardCharsets;
import java.nio.file.Files;
import java.nio.file.Path;
import java.util.ArrayList;
import java.util.List;
import java.util.Set;
import java.util.TreeSet;
import java.util.regex.Pattern;

/**
 * The class has the face of the document and no other, and its text keeps to those rules of
 * LANGUAGE.md that can be read off the words. The first argument is the path of the text, the
 * second one that of the document, from which the face is read.
 */
final class FaceTest {

    private static final int CALLS = 28;
    private static final int PROMISES = 29;

    private static final String[] NOT_IN_THE_TEXT = {
        "\\bcatch\\b", "\\btry\\b", "\\bfinally\\b", "\\bsynchronized\\b", "\\bassert\\b", "->", "::",
        "\\bpackage\\b", "\\bprotected\\b", "\\bObject\\b", "\\bSystem\\.(?!arraycopy)", "\\bThread\\b",
        "Exact\\(", "\\bvar\\b", "\"\\s*\\+", "\\+\\s*\"", "\\bequals\\b", "\\bhashCode\\b",
        "\\btoString\\b", "[^\\x00-\\x7f]", "\\bstatic\\s*\\{",
    };

    private static final Check check = new Check();
    /** The text of the class, with one blank for all white space between two words. */
    private static String words = "";
    private static List<String> document = List.of();

    public static void main(String[] args) throws IOException {
        check.text(args.length > 1 ? "" : "no paths of the class and of the document", "");
        if (args.length > 1) {
            words = Files.readString(Path.of(args[0]), StandardCharsets.ISO_8859_1).replaceAll("\\s+", " ");
            document = Files.readAllLines(Path.of(args[1]), StandardCharsets.UTF_8);
        }
        theFace();
        theFaceWordForWord();
        theHeadsOfThePromises();
        theHeadingsAheadOfTheCalls();
        nothingElseIsSeen();
        noPrivateMethodBearsAPublicName();
        theText();
        check.close();
    }

    private static void theFace() {
        Set<String> due = new TreeSet<>();
        for (String declared : declaredInTheDocument()) {
            if (!declared.equals("public TerminalYard()")) {
                due.add(line(declared));
            }
        }
        check.due(due.size(), CALLS);
        Set<String> got = new TreeSet<>();
        for (Method method : TerminalYard.class.getDeclaredMethods()) {
            if (Modifier.isPublic(method.getModifiers())) {
                check.due(Modifier.isStatic(method.getModifiers()) ? 1 : 0, 0);
                got.add(line(method));
            }
        }
        check.text(got.toString(), due.toString());
        int modifiers = TerminalYard.class.getModifiers();
        check.due(modifiers, Modifier.PUBLIC | Modifier.FINAL);
        Constructor<?>[] constructors = TerminalYard.class.getDeclaredConstructors();
        check.due(constructors.length, 1);
        check.due(constructors[0].getModifiers(), Modifier.PUBLIC);
        check.due(constructors[0].getParameterCount(), 0);
    }

    /** What stands in the class of 'The public face', without the semicolons. */
    private static List<String> declaredInTheDocument() {
        List<String> declared = new ArrayList<>();
        for (String line : document) {
            if (line.startsWith("    public ") && line.endsWith(";")) {
                declared.add(line.substring(4, line.length() - 1));
            }
        }
        return declared;
    }

    private static void theFaceWordForWord() {
        check.due(document.contains("public final class TerminalYard {") ? 1 : 0, 1);
        inTheText("public final class TerminalYard {");
        for (String declared : declaredInTheDocument()) {
            inTheText(declared + " {");
        }
    }

    private static void theHeadsOfThePromises() {
        int heads = 0;
        for (int at = 0; at < document.size(); at++) {
            if (document.get(at).startsWith("## Promise ")) {
                String head = at + 2 < document.size() ? document.get(at + 2) : "";
                check.text(head.matches("`[^`]+`: .*") ? "" : "no head: " + document.get(at), "");
                inTheText("public " + head.replaceAll("^`|`: .*$", "") + " {");
                heads++;
            }
        }
        check.due(heads, PROMISES);
    }

    /** Each heading, and then its calls, in the order of the document. */
    private static void theHeadingsAheadOfTheCalls() {
        int at = 0;
        int calls = 0;
        for (String line : document) {
            if (!line.startsWith("Ahead of the calls ")) {
                continue;
            }
            String heading = line.replaceAll("^.* the interface says: |\\.$", "");
            at = behind("// " + heading + " public ", at);
            String[] parts = line.split("`");
            for (int part = 1; part < parts.length; part += 2) {
                at = behind(" " + parts[part] + "(", at);
                calls++;
            }
        }
        check.due(calls, CALLS);
    }

    private static int behind(String wanted, int from) {
        int at = words.indexOf(wanted, from);
        check.text(at < 0 ? "not in its place: " + wanted : "", "");
        return at < 0 ? from : at + wanted.length() - 1;
    }

    private static void inTheText(String wanted) {
        check.text(words.contains(wanted) ? "" : "not in the text: " + wanted, "");
    }

    /** As line(Method), from how the document declares it. */
    private static String line(String declared) {
        return declared
                .replaceFirst("^public ", "")
                .replaceAll("(?<=[(,]) ?([a-z]+) [A-Za-z]+(?=[,)])", "$1")
                .replaceFirst(" throws ", " ")
                .replace(", ", " ");
    }

    private static String line(Method method) {
        StringBuilder line = new StringBuilder();
        line.append(method.getReturnType().getName()).append(' ').append(method.getName()).append('(');
        String comma = "";
        for (Class<?> parameter : method.getParameterTypes()) {
            line.append(comma).append(parameter.getName());
            comma = ",";
        }
        line.append(')');
        for (Class<?> thrown : method.getExceptionTypes()) {
            line.append(' ').append(thrown.getSimpleName());
        }
        return line.toString();
    }

    private static void nothingElseIsSeen() {
        for (Field field : TerminalYard.class.getDeclaredFields()) {
            int modifiers = field.getModifiers();
            check.due(Modifier.isPrivate(modifiers) ? 1 : 0, 1);
            check.due(Modifier.isStatic(modifiers) && !Modifier.isFinal(modifiers) ? 1 : 0, 0);
        }
        for (Method method : TerminalYard.class.getDeclaredMethods()) {
            int modifiers = method.getModifiers();
            check.due(Modifier.isPublic(modifiers) || Modifier.isPrivate(modifiers) ? 1 : 0, 1);
        }
        for (Class<?> inside : TerminalYard.class.getDeclaredClasses()) {
            int modifiers = inside.getModifiers();
            check.due(Modifier.isPublic(modifiers) || Modifier.isProtected(modifiers) ? 1 : 0, 0);
            check.due(Modifier.isStatic(modifiers) ? 1 : 0, 1);
        }
    }

    private static void noPrivateMethodBearsAPublicName() {
        Set<String> face = new TreeSet<>();
        for (Method method : TerminalYard.class.getMethods()) {
            face.add(method.getName());
        }
        checkNames(TerminalYard.class, face);
        for (Class<?> inside : TerminalYard.class.getDeclaredClasses()) {
            checkNames(inside, face);
        }
    }

    private static void checkNames(Class<?> of, Set<String> face) {
        for (Method method : of.getDeclaredMethods()) {
            boolean isFace = of == TerminalYard.class && Modifier.isPublic(method.getModifiers());
            check.text(!isFace && face.contains(method.getName()) ? method.getName() : "", "");
        }
    }

    private static void theText() {
        for (String pattern : NOT_IN_THE_TEXT) {
            check.text(Pattern.compile(pattern).matcher(words).find() ? pattern : "", "");
        }
        Pattern imports = Pattern.compile("\\bimport (?!java\\.util\\.(ArrayList|NoSuchElementException);)");
        check.text(imports.matcher(words).find() ? "an import" : "", "");
    }
}
