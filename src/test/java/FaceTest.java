import java.io.IOException;
import java.lang.reflect.Constructor;
import java.lang.reflect.Field;
import java.lang.reflect.Method;
import java.lang.reflect.Modifier;
import java.nio.charset.StandardCharsets;
import java.nio.file.Files;
import java.nio.file.Path;
import java.util.Arrays;
import java.util.Set;
import java.util.TreeSet;
import java.util.regex.Pattern;

/**
 * The class has the face of the document and no other, and its text keeps to those rules of
 * LANGUAGE.md that can be read off the words. The first argument is the path of the text.
 */
final class FaceTest {

    private static final String[] FACE = {
        "int addMachine(int,int,int) IllegalArgumentException IllegalStateException",
        "int setLimits(int,int,int) IllegalArgumentException",
        "int drain(int) IndexOutOfBoundsException IllegalStateException",
        "int putUp(int) IndexOutOfBoundsException IllegalStateException",
        "char machine(int) IndexOutOfBoundsException",
        "int next(int) IllegalArgumentException NoSuchElementException",
        "int free(int) IllegalArgumentException",
        "int assign(int,int) IllegalArgumentException",
        "int buy(int,int) IllegalArgumentException IllegalStateException",
        "int lend(int,int,int) IllegalArgumentException UnsupportedOperationException",
        "int giveBack(int,int,int) IllegalArgumentException IllegalStateException"
                + " UnsupportedOperationException",
        "int minutes(int) IllegalArgumentException",
        "int minutesBySessions(int) IllegalArgumentException",
        "int logIn(int,int) IllegalArgumentException IllegalStateException"
                + " UnsupportedOperationException NoSuchElementException",
        "int logOut(int) IndexOutOfBoundsException IllegalStateException",
        "int use(int) IndexOutOfBoundsException IllegalStateException",
        "int takeOver(int,int) IndexOutOfBoundsException IllegalArgumentException"
                + " IllegalStateException UnsupportedOperationException",
        "int handBack(int) IndexOutOfBoundsException IllegalStateException",
        "int print(int,int) IndexOutOfBoundsException IllegalArgumentException"
                + " IllegalStateException UnsupportedOperationException",
        "char state(int) IndexOutOfBoundsException",
        "int machineOf(int) IndexOutOfBoundsException",
        "int userOf(int) IndexOutOfBoundsException",
        "int charged(int,int) IndexOutOfBoundsException IllegalArgumentException",
        "int endsIn(int) IndexOutOfBoundsException IllegalStateException",
        "int pass(int) IllegalArgumentException",
        "int time()",
        "float pageShare() ArithmeticException",
        "double meanCharge() ArithmeticException",
    };

    private static final String[] NOT_IN_THE_TEXT = {
        "\\bcatch\\b", "\\btry\\b", "\\bfinally\\b", "\\bsynchronized\\b", "\\bassert\\b", "->", "::",
        "\\bpackage\\b", "\\bprotected\\b", "\\bObject\\b", "\\bSystem\\.(?!arraycopy)", "\\bThread\\b",
        "Exact\\(", "\\bvar\\b", "\"\\s*\\+", "\\+\\s*\"", "\\bequals\\b", "\\bhashCode\\b",
        "\\btoString\\b", "[^\\x00-\\x7f]", "\\bstatic\\s*\\{",
    };

    private static final Check check = new Check();

    public static void main(String[] args) throws IOException {
        theFace();
        nothingElseIsSeen();
        noPrivateMethodBearsAPublicName();
        theText(args);
        check.close();
    }

    private static void theFace() {
        Set<String> got = new TreeSet<>();
        for (Method method : TerminalYard.class.getDeclaredMethods()) {
            if (Modifier.isPublic(method.getModifiers())) {
                check.due(Modifier.isStatic(method.getModifiers()) ? 1 : 0, 0);
                got.add(line(method));
            }
        }
        check.text(got.toString(), new TreeSet<>(Arrays.asList(FACE)).toString());
        int modifiers = TerminalYard.class.getModifiers();
        check.due(modifiers, Modifier.PUBLIC | Modifier.FINAL);
        Constructor<?>[] constructors = TerminalYard.class.getDeclaredConstructors();
        check.due(constructors.length, 1);
        check.due(constructors[0].getModifiers(), Modifier.PUBLIC);
        check.due(constructors[0].getParameterCount(), 0);
    }

    private static String line(Method method) {
        StringBuilder line = new StringBuilder();
        line.append(method.getReturnType().getName()).append(' ').append(method.getName()).append('(');
        String comma = "";
        for (Class<?> parameter : method.getParameterTypes()) {
            line.append(comma).append(parameter.getName());
            comma = ",";
        }
        line.append(')');
        for (Class<?> thrown : method.getExceptionTypes()) {
            line.append(' ').append(thrown.getSimpleName());
        }
        return line.toString();
    }

    private static void nothingElseIsSeen() {
        for (Field field : TerminalYard.class.getDeclaredFields()) {
            int modifiers = field.getModifiers();
            check.due(Modifier.isPrivate(modifiers) ? 1 : 0, 1);
            check.due(Modifier.isStatic(modifiers) && !Modifier.isFinal(modifiers) ? 1 : 0, 0);
        }
        for (Method method : TerminalYard.class.getDeclaredMethods()) {
            int modifiers = method.getModifiers();
            check.due(Modifier.isPublic(modifiers) || Modifier.isPrivate(modifiers) ? 1 : 0, 1);
        }
        for (Class<?> inside : TerminalYard.class.getDeclaredClasses()) {
            int modifiers = inside.getModifiers();
            check.due(Modifier.isPublic(modifiers) || Modifier.isProtected(modifiers) ? 1 : 0, 0);
            check.due(Modifier.isStatic(modifiers) ? 1 : 0, 1);
        }
    }

    private static void noPrivateMethodBearsAPublicName() {
        Set<String> face = new TreeSet<>();
        for (Method method : TerminalYard.class.getMethods()) {
            face.add(method.getName());
        }
        checkNames(TerminalYard.class, face);
        for (Class<?> inside : TerminalYard.class.getDeclaredClasses()) {
            checkNames(inside, face);
        }
    }

    private static void checkNames(Class<?> of, Set<String> face) {
        for (Method method : of.getDeclaredMethods()) {
            boolean isFace = of == TerminalYard.class && Modifier.isPublic(method.getModifiers());
            check.text(!isFace && face.contains(method.getName()) ? method.getName() : "", "");
        }
    }

    private static void theText(String[] args) throws IOException {
        check.text(args.length > 0 ? "" : "no path of the class", "");
        if (args.length == 0) {
            return;
        }
        String text = Files.readString(Path.of(args[0]), StandardCharsets.ISO_8859_1);
        for (String pattern : NOT_IN_THE_TEXT) {
            check.text(Pattern.compile(pattern).matcher(text).find() ? pattern : "", "");
        }
        Pattern imports = Pattern.compile("^import (?!java\\.util\\.(ArrayList|NoSuchElementException);$)",
                Pattern.MULTILINE);
        check.text(imports.matcher(text).find() ? "an import" : "", "");
    }
}
