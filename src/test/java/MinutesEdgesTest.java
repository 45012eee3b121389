import java.io.IOException;
import java.util.NoSuchElementException;

/** Promises 26 to 29, sentence by sentence; what a minute does, TermsEdgesTest looks at. */
final class MinutesEdgesTest {

    private static final Check check = new Check();
    private static Sentences doc;

    public static void main(String[] args) throws IOException {
        doc = new Sentences(check, args);
        passes();
        passMinutes();
        passSessionsThatEnd();
        passOutOfRange();
        passLastTime();
        time();
        shareForPages();
        shareOfAllSessions();
        shareAsFloat();
        shareOfNothing();
        meanOfAllSessions();
        meanAsDouble();
        meanWithoutSessions();
        doc.eachHasATest(26, 29);
        check.close();
    }

    /** Two machines of the pools 0 and 1, and 4000 minutes in the department 0. */
    private static TerminalYard yard() {
        TerminalYard yard = new TerminalYard();
        yard.addMachine(0, 0, 4);
        yard.addMachine(1, 1, 4);
        yard.buy(0, 4000);
        return yard;
    }

    /** A session in each of the pools 0 and 1, of the users 0 and 1. */
    private static TerminalYard two() {
        TerminalYard yard = yard();
        yard.logIn(0, 0);
        yard.logIn(1, 1);
        return yard;
    }

    /** The time is 4980, and a session of the user 0 has just begun. */
    private static TerminalYard late() {
        TerminalYard yard = yard();
        for (int hour = 0; hour < 83; hour++) {
            yard.pass(60);
        }
        yard.logIn(0, 0);
        return yard;
    }

    private static void passes() {
        doc.says(26, "Lets minutes pass.");
        TerminalYard once = two();
        TerminalYard often = two();
        once.pass(45);
        for (int minute = 0; minute < 45; minute++) {
            often.pass(1);
        }
        check.due(once.time(), 45);
        check.due(once.charged(0, 0), 30);
        check.text(Light.on(once), Light.on(often));
    }

    private static void passMinutes() {
        doc.says(26, "`minutes`: the number of minutes, 1 to 60");
        for (int minutes = 1; minutes <= 60; minutes++) {
            TerminalYard yard = two();
            yard.setLimits(0, 999, 999);
            yard.pass(minutes);
            check.due(yard.time(), minutes);
            check.due(yard.charged(0, 0), minutes);
        }
        for (int wrong : Sentences.outside(1, 60)) {
            doc.throwsArgument(MinutesEdgesTest::two, y -> y.pass(wrong));
        }
    }

    private static void passSessionsThatEnd() {
        doc.says(26, "Returns the number of sessions that end.");
        check.due(yard().pass(60), 0);
        TerminalYard yard = two();
        yard.logIn(2, 0);
        yard.logIn(3, 0);
        yard.setLimits(1, 40, 999);
        check.due(yard.pass(29), 0);
        yard.logOut(3);
        yard.use(2);
        check.due(yard.pass(1), 1);
        check.due(yard.pass(1), 0);
        // in several minutes and in several ways
        yard.logIn(3, 0);
        yard.assign(3, 1);
        check.due(yard.pass(60), 3);
        check.letter(yard.state(1), 'i');
        check.letter(yard.state(4), 'o');
        check.due(yard.pass(60), 0);
        TerminalYard full = yard();
        for (int user = 0; user < 8; user++) {
            full.logIn(user, user % 2);
        }
        check.due(full.pass(60), 8);
    }

    private static final String OUT_OF_RANGE = "Throws `IllegalArgumentException` if the number is "
            + "out of range, or the time would be greater than 5000";

    private static void passOutOfRange() {
        doc.says(26, OUT_OF_RANGE);
        doc.throwsArgument(MinutesEdgesTest::two, y -> y.pass(0));
        doc.throwsArgument(MinutesEdgesTest::two, y -> y.pass(-1));
        doc.throwsArgument(MinutesEdgesTest::two, y -> y.pass(61));
        check.due(two().pass(60), 2);
    }

    private static void passLastTime() {
        doc.says(26, OUT_OF_RANGE);
        doc.throwsArgument(MinutesEdgesTest::late, y -> y.pass(21));
        doc.throwsArgument(MinutesEdgesTest::late, y -> y.pass(60));
        check.due(late().pass(20), 0);
        TerminalYard yard = late();
        yard.pass(19);
        check.refused(IllegalArgumentException.class, () -> yard.pass(2));
        check.due(yard.time(), 4999);
        check.due(yard.charged(0, 0), 19);
        yard.pass(1);
        check.due(yard.time(), 5000);
        check.due(yard.charged(0, 0), 20);
        check.refused(IllegalArgumentException.class, () -> yard.pass(1));
        // all else goes on at the last time
        check.due(yard.use(0), 20);
        check.due(yard.print(0, 1), 1);
        check.due(yard.logOut(0), 22);
        check.due(yard.logIn(0, 0), 1);
    }

    private static void time() {
        doc.says(27, "Returns the time.");
        TerminalYard yard = two();
        check.due(yard.time(), 0);
        yard.pass(1);
        check.due(yard.time(), 1);
        yard.pass(60);
        check.due(yard.time(), 61);
        check.refused(IllegalArgumentException.class, () -> yard.pass(61));
        check.due(yard.time(), 61);
    }

    private static final String SHARE =
            "Returns the share of all charged minutes that were charged for pages.";

    private static void shareForPages() {
        doc.says(28, SHARE);
        TerminalYard yard = two();
        yard.pass(3);
        check.figure(yard.pageShare(), 0.0f);
        yard.print(0, 1);
        check.figure(yard.pageShare(), 2.0f / 8.0f);
        yard.pass(1);
        check.figure(yard.pageShare(), 2.0f / 10.0f);
        yard.print(1, 5);
        check.figure(yard.pageShare(), 12.0f / 20.0f);
        TerminalYard pages = two();
        pages.print(1, 99);
        check.figure(pages.pageShare(), 1.0f);
    }

    private static void shareOfAllSessions() {
        doc.says(28, SHARE);
        TerminalYard yard = two();
        yard.buy(1, 50);
        yard.assign(5, 1);
        yard.print(0, 4);
        yard.pass(2);
        yard.takeOver(0, 5);
        yard.print(0, 3);
        yard.pass(1);
        // pages and minutes of all departments, and of ended sessions, too
        yard.logOut(0);
        check.figure(yard.pageShare(), 14.0f / 20.0f);
        check.refused(IllegalStateException.class, () -> yard.print(0, 1));
        yard.pass(60);
        check.letter(yard.state(1), 'i');
        check.figure(yard.pageShare(), 14.0f / 47.0f);
    }

    private static void shareAsFloat() {
        doc.says(28, "Returns these minutes divided by all charged minutes, "
                + "both converted to float.");
        TerminalYard yard = two();
        yard.print(0, 3);
        yard.pass(1);
        // 6 of 8, and then three quotients that no float holds exactly
        check.figure(yard.pageShare(), 0.75);
        yard.logOut(1);
        yard.pass(1);
        check.figure(yard.pageShare(), (double) (6.0f / 9.0f));
        yard.pass(2);
        check.figure(yard.pageShare(), (double) (6.0f / 11.0f));
        yard.print(0, 99);
        check.figure(yard.pageShare(), (double) (204.0f / 209.0f));
    }

    private static void shareOfNothing() {
        doc.says(28, "Throws `ArithmeticException` if nothing was charged");
        doc.throwsArithmetic(TerminalYard::new, y -> y.pageShare());
        doc.throwsArithmetic(MinutesEdgesTest::yard, y -> y.pageShare());
        doc.throwsArithmetic(MinutesEdgesTest::two, y -> y.pageShare());
        doc.throwsArithmetic(() -> {
            TerminalYard yard = two();
            yard.logOut(0);
            yard.assign(1, 3);
            yard.pass(1);
            return yard;
        }, y -> y.pageShare());
        TerminalYard yard = two();
        yard.logOut(0);
        yard.pass(1);
        check.figure(yard.pageShare(), 0.0f);
    }

    private static void meanOfAllSessions() {
        doc.says(29, "Returns the mean of what was charged to all sessions.");
        TerminalYard yard = two();
        check.figure(yard.meanCharge(), 0.0);
        yard.buy(1, 50);
        yard.assign(5, 1);
        yard.pass(2);
        check.figure(yard.meanCharge(), 2.0);
        yard.takeOver(0, 5);
        yard.print(0, 4);
        check.figure(yard.meanCharge(), 6.0);
        // ended sessions count, and those to which nothing was charged
        yard.logOut(0);
        yard.logIn(0, 0);
        yard.logOut(2);
        yard.logIn(0, 0);
        check.figure(yard.meanCharge(), 3.0);
        yard.pass(4);
        check.figure(yard.meanCharge(), 5.0);
    }

    private static void meanAsDouble() {
        doc.says(29, "Returns the sum of the minutes divided by the number of sessions, "
                + "both converted to double.");
        TerminalYard yard = two();
        yard.pass(2);
        yard.logIn(2, 0);
        check.figure(yard.meanCharge(), 4.0 / 3.0);
        yard.pass(1);
        check.figure(yard.meanCharge(), 7.0 / 3.0);
        yard.logOut(0);
        yard.pass(1);
        check.figure(yard.meanCharge(), 3.0);
        for (int session = 3; session < 7; session++) {
            yard.logOut(yard.logIn(9, 0));
        }
        check.figure(yard.meanCharge(), 9.0 / 7.0);
    }

    private static void meanWithoutSessions() {
        doc.says(29, "Throws `ArithmeticException` if there were no sessions");
        doc.throwsArithmetic(TerminalYard::new, y -> y.meanCharge());
        doc.throwsArithmetic(() -> {
            TerminalYard yard = yard();
            yard.pass(5);
            return yard;
        }, y -> y.meanCharge());
        TerminalYard yard = yard();
        check.refused(NoSuchElementException.class, () -> yard.logIn(0, 2));
        check.refused(ArithmeticException.class, () -> yard.meanCharge());
        yard.logIn(0, 0);
        check.figure(yard.meanCharge(), 0.0);
        yard.logOut(0);
        check.figure(yard.meanCharge(), 0.0);
    }
}
