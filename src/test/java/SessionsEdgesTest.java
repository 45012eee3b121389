import java.io.IOException;
import java.util.NoSuchElementException;
import java.util.function.Consumer;
import java.util.function.ObjIntConsumer;

/** Promises 15 to 25, sentence by sentence. */
final class SessionsEdgesTest {

    private static final String NO_SUCH_SESSION =
            "Throws `IndexOutOfBoundsException` if there is no such session";
    private static final String NOT_LIVE = "Throws `IllegalStateException` if it is not live";
    private static final String ENDINGS = "loix";

    private static final Check check = new Check();
    private static Sentences doc;

    public static void main(String[] args) throws IOException {
        doc = new Sentences(check, args);
        logIn();
        logOut();
        use();
        takeOver();
        handBack();
        print();
        state();
        machineOf();
        userOf();
        charged();
        endsIn();
        doc.eachHasATest(15, 25);
        check.close();
    }

    private static void logIn() {
        logsIn();
        logInUser();
        logInPool();
        logInNumber();
        logInNoSuch();
        logInOwnsALiveSession();
        logInFortySessions();
        logInNoMinuteLeft();
        logInNoMachine();
    }

    private static void logOut() {
        logsOut();
        logOutCharged();
        logOutNoSuchSession();
        logOutNotLive();
    }

    private static void use() {
        uses();
        useNotUsedFor();
        useNoSuchSession();
        useNotLive();
    }

    private static void takeOver() {
        takesOver();
        takesOverByTheOwner();
        takeOverUser();
        takeOverUserBefore();
        takeOverNoSuchSession();
        takeOverNoSuchUserOrItsOwn();
        takeOverNotLive();
        takeOverNoMinuteLeft();
    }

    private static void handBack() {
        handsBack();
        handBackWithoutMinutes();
        handBackUserBefore();
        handBackNoSuchSession();
        handBackNotLiveOrItsOwners();
    }

    private static void print() {
        printsInTheRoom();
        printPages();
        printPagesOfTheRoom();
        printNoSuchSession();
        printOutOfRange();
        printNotLive();
        printFewerMinutes();
    }

    private static void state() {
        stateOfASession();
        stateLetters();
        stateNoSuchSession();
    }

    private static void machineOf() {
        machineOfASession();
        machineOfEndedSessions();
        machineOfNoSuchSession();
    }

    private static void userOf() {
        userOfASession();
        userOfEndedSessions();
        userOfNoSuchSession();
    }

    private static void charged() {
        chargedFromADepartment();
        chargedDepartment();
        chargedMinutes();
        chargedNoSuchSession();
        chargedNoSuchDepartment();
    }

    private static void endsIn() {
        endsInByALimit();
        endsInByNothingElse();
        endsInComesTrue();
        endsInAtLeastOne();
        endsInNoSuchSession();
        endsInNotLive();
    }

    /** Two machines of the pool 0, with 4 seats and 2, and 5000 minutes in the department 0. */
    private static TerminalYard yard() {
        TerminalYard yard = new TerminalYard();
        yard.addMachine(0, 1, 4);
        yard.addMachine(0, 2, 2);
        yard.buy(0, 5000);
        return yard;
    }

    /** The sessions 0 and 1 of the users 0 and 1 are live, and not used for 3 minutes. */
    private static TerminalYard two() {
        TerminalYard yard = yard();
        yard.logIn(0, 0);
        yard.logIn(1, 0);
        yard.pass(3);
        return yard;
    }

    /** As two(), but the user 5 has taken over the session 0. */
    private static TerminalYard taken() {
        TerminalYard yard = two();
        yard.takeOver(0, 5);
        return yard;
    }

    private static TerminalYard fortySessions() {
        TerminalYard yard = yard();
        for (int session = 0; session < 40; session++) {
            yard.logIn(session % 10, 0);
            yard.logOut(session);
        }
        return yard;
    }

    /** As two(), but the session 0 has ended like this; the user 1 still owns a live session. */
    private static TerminalYard ended(char how) {
        return endedOn(two(), how);
    }

    private static TerminalYard endedOn(TerminalYard yard, char how) {
        int user = yard.userOf(0);
        switch (how) {
            case 'l':
                yard.logOut(0);
                break;
            case 'o':
                yard.assign(user, 3);
                yard.pass(1);
                yard.assign(user, 0);
                break;
            case 'i':
                yard.use(1);
                yard.setLimits(0, 2, 999);
                if (yard.endsIn(0) == 2) {
                    yard.pass(1);
                    yard.use(1);
                }
                yard.pass(1);
                break;
            default:
                // a session that began later does not reach the limit
                yard.logOut(1);
                yard.logIn(1, 0);
                yard.setLimits(0, 999, 4);
                yard.pass(1);
        }
        yard.setLimits(0, 30, 240);
        check.letter(yard.state(0), how);
        return yard;
    }

    private static void noSuchSession(ObjIntConsumer<TerminalYard> call) {
        doc.throwsIndex(SessionsEdgesTest::yard, y -> call.accept(y, 0));
        for (int wrong : Sentences.outside(0, 1)) {
            doc.throwsIndex(SessionsEdgesTest::two, y -> call.accept(y, wrong));
        }
        doc.throwsIndex(SessionsEdgesTest::fortySessions, y -> call.accept(y, 40));
    }

    private static void notLive(Consumer<TerminalYard> call) {
        for (char how : ENDINGS.toCharArray()) {
            doc.throwsState(() -> ended(how), call);
        }
    }

    private static void logsIn() {
        doc.says(15, "Logs a user in.");
        TerminalYard yard = yard();
        yard.pass(10);
        int session = yard.logIn(4, 0);
        check.due(yard.userOf(session), 4);
        check.due(yard.machineOf(session), 0);
        check.letter(yard.state(session), 'a');
        check.due(yard.free(0), 5);
        check.due(yard.charged(session, 0), 0);
        check.due(yard.minutes(0), 5000);
        check.due(yard.use(session), 0);
        check.due(yard.endsIn(session), 30);
        yard.pass(1);
        check.due(yard.charged(session, 0), 1);
        check.refused(IllegalStateException.class, () -> yard.handBack(session));
    }

    private static void logInUser() {
        doc.says(15, "`user`: the user, 0 to 9");
        for (int user = 0; user <= 9; user++) {
            TerminalYard yard = yard();
            check.due(yard.logIn(user, 0), 0);
            check.due(yard.userOf(0), user);
        }
        for (int wrong : Sentences.outside(0, 9)) {
            doc.throwsArgument(SessionsEdgesTest::two, y -> y.logIn(wrong, 0));
        }
    }

    private static void logInPool() {
        doc.says(15, "`pool`: the pool, 0 to 2");
        TerminalYard yard = yard();
        yard.addMachine(2, 0, 1);
        yard.addMachine(1, 0, 1);
        int[] due = {0, 3, 2};
        for (int pool = 0; pool <= 2; pool++) {
            check.due(yard.machineOf(yard.logIn(pool, pool)), due[pool]);
        }
        for (int wrong : Sentences.outside(0, 2)) {
            doc.throwsArgument(SessionsEdgesTest::two, y -> y.logIn(2, wrong));
        }
    }

    private static void logInNumber() {
        doc.says(15, "Returns the number of the session.");
        TerminalYard yard = yard();
        for (int session = 0; session < 40; session++) {
            // neither a refused call nor an ended session changes the numbers
            check.refused(IllegalArgumentException.class, () -> yard.logIn(10, 0));
            check.due(yard.logIn(session % 3, 0), session);
            if (session >= 2) {
                yard.logOut(session - 2);
            }
        }
        check.letter(yard.state(37), 'l');
        check.letter(yard.state(38), 'a');
        check.letter(yard.state(39), 'a');
    }

    private static void logInNoSuch() {
        doc.says(15, "Throws `IllegalArgumentException` if there is no such user or no such pool");
        doc.throwsArgument(SessionsEdgesTest::two, y -> y.logIn(-1, 0));
        doc.throwsArgument(SessionsEdgesTest::two, y -> y.logIn(10, 0));
        doc.throwsArgument(SessionsEdgesTest::two, y -> y.logIn(9, -1));
        doc.throwsArgument(SessionsEdgesTest::two, y -> y.logIn(9, 3));
        doc.throwsArgument(SessionsEdgesTest::two, y -> y.logIn(10, 3));
    }

    private static final String OWNS_OR_FORTY = "Throws `IllegalStateException` if the user owns a "
            + "live session, or there were 40 sessions";

    private static void logInOwnsALiveSession() {
        doc.says(15, OWNS_OR_FORTY);
        doc.throwsState(SessionsEdgesTest::two, y -> y.logIn(0, 0));
        doc.throwsState(SessionsEdgesTest::two, y -> y.logIn(1, 0));
        // owned, though another user has it
        doc.throwsState(SessionsEdgesTest::taken, y -> y.logIn(0, 0));
        // used, but not owned
        check.due(taken().logIn(5, 0), 2);
        for (char how : ENDINGS.toCharArray()) {
            TerminalYard yard = ended(how);
            check.letter(yard.state(yard.logIn(0, 0)), 'a');
        }
    }

    private static void logInFortySessions() {
        doc.says(15, OWNS_OR_FORTY);
        doc.throwsState(SessionsEdgesTest::fortySessions, y -> y.logIn(0, 0));
        TerminalYard yard = yard();
        for (int session = 0; session < 39; session++) {
            yard.logIn(session % 10, 0);
            yard.logOut(session);
        }
        check.due(yard.logIn(9, 0), 39);
        check.refused(IllegalStateException.class, () -> yard.logIn(8, 0));
        check.letter(yard.state(39), 'a');
        yard.logOut(39);
        check.refused(IllegalStateException.class, () -> yard.logIn(8, 0));
    }

    /** As two(), but the users 6 and 7 are of the department 1, which has so many minutes. */
    private static TerminalYard secondDepartment(int minutes) {
        TerminalYard yard = two();
        yard.assign(6, 1);
        yard.assign(7, 1);
        if (minutes > 0) {
            yard.buy(1, minutes);
        }
        return yard;
    }

    private static void logInNoMinuteLeft() {
        doc.says(15, "Throws `UnsupportedOperationException` if the department of the user has no "
                + "minute left");
        doc.throwsUnsupported(() -> secondDepartment(0), y -> y.logIn(6, 0));
        check.due(secondDepartment(0).logIn(5, 0), 2);
        TerminalYard yard = secondDepartment(1);
        check.due(yard.logIn(6, 0), 2);
        // a minute that is left is enough for two
        check.due(yard.logIn(7, 0), 3);
        yard.logOut(3);
        yard.pass(1);
        check.due(yard.minutes(1), 0);
        check.refused(UnsupportedOperationException.class, () -> yard.logIn(7, 0));
        yard.lend(0, 1, 1);
        check.due(yard.logIn(7, 0), 4);
    }

    private static void logInNoMachine() {
        doc.says(15, "Throws `NoSuchElementException` if no machine of the pool would take it");
        doc.throwsNoSuchElement(SessionsEdgesTest::two, y -> y.logIn(2, 1));
        doc.throwsNoSuchElement(SessionsEdgesTest::two, y -> y.logIn(2, 2));
        doc.throwsNoSuchElement(() -> {
            TerminalYard yard = two();
            yard.logOut(1);
            yard.drain(0);
            yard.drain(1);
            return yard;
        }, y -> y.logIn(2, 0));
        TerminalYard yard = yard();
        for (int user = 0; user < 6; user++) {
            check.due(yard.logIn(user, 0), user);
        }
        check.refused(NoSuchElementException.class, () -> yard.logIn(6, 0));
        yard.logOut(3);
        check.due(yard.logIn(6, 0), 6);
        check.due(yard.machineOf(6), 1);
    }

    private static void logsOut() {
        doc.says(16, "Logs a session out.");
        TerminalYard yard = two();
        check.due(yard.free(0), 4);
        yard.logOut(0);
        check.letter(yard.state(0), 'l');
        check.letter(yard.state(1), 'a');
        check.due(yard.free(0), 5);
        check.letter(yard.machine(0), 'u');
        check.due(yard.pass(60), 1);
        check.letter(yard.state(0), 'l');
        check.due(yard.charged(0, 0), 3);
        TerminalYard again = taken();
        again.logOut(0);
        check.letter(again.state(0), 'l');
    }

    private static void logOutCharged() {
        doc.says(16, "Returns the minutes that were charged to it.");
        TerminalYard yard = yard();
        yard.logIn(0, 0);
        check.due(yard.logOut(0), 0);
        yard.logIn(1, 0);
        yard.logIn(2, 0);
        yard.pass(7);
        yard.print(2, 50);
        check.due(yard.logOut(1), 7);
        // from all departments, for minutes and for pages
        for (int department = 1; department <= 3; department++) {
            yard.buy(department, 50);
            yard.assign(2 + department, department);
            yard.takeOver(2, 2 + department);
            yard.pass(department);
        }
        yard.print(2, 4);
        check.due(yard.logOut(2), 7 + 100 + 1 + 2 + 3 + 8);
    }

    private static void logOutNoSuchSession() {
        doc.says(16, NO_SUCH_SESSION);
        noSuchSession((y, session) -> y.logOut(session));
    }

    private static void logOutNotLive() {
        doc.says(16, NOT_LIVE);
        notLive(y -> y.logOut(0));
    }

    private static void uses() {
        doc.says(17, "Uses a session.");
        TerminalYard yard = two();
        check.due(yard.endsIn(0), 27);
        yard.use(0);
        check.due(yard.endsIn(0), 30);
        check.due(yard.endsIn(1), 27);
        check.due(yard.minutes(0), 5000 - 6);
        check.due(yard.pass(27), 1);
        check.letter(yard.state(0), 'a');
        check.letter(yard.state(1), 'i');
    }

    private static void useNotUsedFor() {
        doc.says(17, "Returns for how many minutes it was not used.");
        TerminalYard yard = two();
        check.due(yard.use(0), 3);
        check.due(yard.use(0), 0);
        yard.pass(29);
        check.due(yard.use(0), 29);
        yard.pass(1);
        check.due(yard.use(0), 1);
        TerminalYard late = yard();
        late.pass(60);
        late.logIn(0, 0);
        check.due(late.use(0), 0);
        late.setLimits(0, 999, 999);
        late.pass(60);
        late.pass(5);
        check.due(late.use(0), 65);
    }

    private static void useNoSuchSession() {
        doc.says(17, NO_SUCH_SESSION);
        noSuchSession((y, session) -> y.use(session));
    }

    private static void useNotLive() {
        doc.says(17, NOT_LIVE);
        notLive(y -> y.use(0));
    }

    private static final String TAKES_OVER =
            "Lets a session be taken over by a user, also by its owner.";

    private static void takesOver() {
        doc.says(18, TAKES_OVER);
        TerminalYard yard = secondDepartment(50);
        yard.takeOver(0, 6);
        check.letter(yard.state(0), 't');
        check.due(yard.userOf(0), 6);
        check.due(yard.endsIn(0), 30);
        check.due(yard.use(0), 0);
        yard.pass(2);
        check.due(yard.charged(0, 0), 3);
        check.due(yard.charged(0, 1), 2);
        check.letter(yard.state(1), 'a');
        check.due(yard.machineOf(0), 0);
        // the hard limit counts from when it began
        yard.setLimits(0, 999, 6);
        check.due(yard.endsIn(0), 1);
    }

    private static void takesOverByTheOwner() {
        doc.says(18, TAKES_OVER);
        TerminalYard yard = taken();
        yard.pass(2);
        check.due(yard.takeOver(0, 0), 5);
        check.letter(yard.state(0), 'a');
        check.due(yard.userOf(0), 0);
        check.due(yard.use(0), 0);
        check.refused(IllegalStateException.class, () -> yard.handBack(0));
        // a user who has one session may take over another, and one who owns one, too
        check.due(yard.takeOver(0, 1), 0);
        check.due(yard.takeOver(1, 0), 1);
        check.letter(yard.state(0), 't');
        check.letter(yard.state(1), 't');
    }

    private static void takeOverUser() {
        doc.says(18, "`user`: the user, 0 to 9");
        for (int user = 1; user <= 9; user++) {
            TerminalYard yard = two();
            check.due(yard.takeOver(0, user), 0);
            check.due(yard.userOf(0), user);
        }
        check.due(two().takeOver(1, 0), 1);
        for (int wrong : Sentences.outside(0, 9)) {
            doc.throwsArgument(SessionsEdgesTest::two, y -> y.takeOver(0, wrong));
        }
    }

    private static void takeOverUserBefore() {
        doc.says(18, "Returns the user before.");
        TerminalYard yard = two();
        check.due(yard.takeOver(1, 9), 1);
        check.due(yard.takeOver(1, 0), 9);
        check.due(yard.takeOver(1, 1), 0);
        check.due(yard.takeOver(1, 8), 1);
    }

    private static void takeOverNoSuchSession() {
        doc.says(18, NO_SUCH_SESSION);
        noSuchSession((y, session) -> y.takeOver(session, 5));
    }

    private static void takeOverNoSuchUserOrItsOwn() {
        doc.says(18, "Throws `IllegalArgumentException` if there is no such user, or this is its user");
        doc.throwsArgument(SessionsEdgesTest::two, y -> y.takeOver(0, -1));
        doc.throwsArgument(SessionsEdgesTest::two, y -> y.takeOver(0, 10));
        doc.throwsArgument(SessionsEdgesTest::two, y -> y.takeOver(0, 0));
        doc.throwsArgument(SessionsEdgesTest::two, y -> y.takeOver(1, 1));
        doc.throwsArgument(SessionsEdgesTest::taken, y -> y.takeOver(0, 5));
        // the last user is the user of an ended session
        doc.throwsArgument(() -> endedOn(taken(), 'l'), y -> y.takeOver(0, 5));
    }

    private static void takeOverNotLive() {
        doc.says(18, NOT_LIVE);
        notLive(y -> y.takeOver(0, 5));
        doc.throwsState(() -> endedOn(taken(), 'l'), y -> y.takeOver(0, 0));
    }

    private static void takeOverNoMinuteLeft() {
        doc.says(18, "Throws `UnsupportedOperationException` if the department of the user has no "
                + "minute left");
        doc.throwsUnsupported(() -> secondDepartment(0), y -> y.takeOver(0, 6));
        check.due(secondDepartment(1).takeOver(0, 6), 0);
        // nor does the owner come back to a department without a minute in this way
        doc.throwsUnsupported(() -> {
            TerminalYard yard = taken();
            yard.assign(0, 3);
            return yard;
        }, y -> y.takeOver(0, 0));
        // the department of the user before does not matter
        TerminalYard yard = secondDepartment(1);
        yard.takeOver(0, 6);
        yard.pass(1);
        check.due(yard.minutes(1), 0);
        check.due(yard.takeOver(0, 2), 6);
    }

    private static void handsBack() {
        doc.says(19, "Hands a session back to its owner.");
        TerminalYard yard = taken();
        yard.buy(2, 9);
        yard.assign(5, 2);
        yard.pass(4);
        yard.handBack(0);
        check.due(yard.userOf(0), 0);
        check.letter(yard.state(0), 'a');
        check.due(yard.endsIn(0), 30);
        check.due(yard.use(0), 0);
        yard.pass(1);
        check.due(yard.charged(0, 2), 4);
        check.due(yard.charged(0, 0), 3 + 1);
        // to the owner, not to the user before
        yard.takeOver(0, 6);
        yard.takeOver(0, 7);
        yard.handBack(0);
        check.due(yard.userOf(0), 0);
    }

    private static void handBackWithoutMinutes() {
        doc.says(19, "Hands a session back to its owner.");
        TerminalYard yard = taken();
        yard.assign(0, 3);
        check.due(yard.handBack(0), 5);
        check.letter(yard.state(0), 'a');
        check.due(yard.pass(1), 1);
        check.letter(yard.state(0), 'o');
    }

    private static void handBackUserBefore() {
        doc.says(19, "Returns the user before.");
        check.due(taken().handBack(0), 5);
        TerminalYard yard = taken();
        yard.takeOver(0, 9);
        check.due(yard.handBack(0), 9);
        yard.takeOver(1, 0);
        check.due(yard.handBack(1), 0);
    }

    private static void handBackNoSuchSession() {
        doc.says(19, NO_SUCH_SESSION);
        noSuchSession((y, session) -> y.handBack(session));
    }

    private static void handBackNotLiveOrItsOwners() {
        doc.says(19, "Throws `IllegalStateException` if it is not live, or its user is its owner");
        doc.throwsState(SessionsEdgesTest::two, y -> y.handBack(0));
        doc.throwsState(SessionsEdgesTest::taken, y -> y.handBack(1));
        notLive(y -> y.handBack(0));
        for (char how : ENDINGS.toCharArray()) {
            doc.throwsState(() -> endedOn(taken(), how), y -> y.handBack(0));
        }
        doc.throwsState(() -> {
            TerminalYard yard = taken();
            yard.handBack(0);
            return yard;
        }, y -> y.handBack(0));
        doc.throwsState(() -> {
            TerminalYard yard = taken();
            yard.takeOver(0, 0);
            return yard;
        }, y -> y.handBack(0));
    }

    private static void printsInTheRoom() {
        doc.says(20, "Prints pages in the room of the machine of a session.");
        TerminalYard yard = two();
        yard.addMachine(1, 2, 1);
        check.due(yard.machineOf(1), 1);
        check.due(yard.print(0, 5), 5);
        check.due(yard.print(1, 7), 7);
        check.due(yard.charged(0, 0), 3 + 10);
        check.due(yard.charged(1, 0), 3 + 14);
        check.due(yard.minutes(0), 5000 - 6 - 24);
        check.due(yard.use(0), 0);
        // a machine of another pool in the same room, and one that is draining
        yard.logIn(2, 1);
        check.due(yard.print(2, 1), 8);
        yard.drain(1);
        check.due(yard.print(1, 1), 9);
        check.due(yard.print(0, 1), 6);
    }

    private static void printPages() {
        doc.says(20, "`pages`: the number of pages, 1 to 99");
        check.due(two().print(0, 1), 1);
        check.due(two().print(0, 99), 99);
        int[] wrong = {0, -1, 100, 1 << 30, (1 << 30) + 1, Integer.MIN_VALUE, Integer.MAX_VALUE};
        for (int pages : wrong) {
            doc.throwsArgument(SessionsEdgesTest::two, y -> y.print(0, pages));
        }
    }

    private static void printPagesOfTheRoom() {
        doc.says(20, "Returns the number of pages that were printed in this room.");
        TerminalYard yard = yard();
        yard.logIn(0, 0);
        yard.logIn(1, 0);
        yard.logIn(2, 0);
        check.due(yard.print(0, 99), 99);
        check.due(yard.print(0, 99), 198);
        check.due(yard.print(2, 1), 199);
        check.due(yard.print(1, 4), 4);
        check.refused(IllegalArgumentException.class, () -> yard.print(0, 100));
        // those of ended sessions, and from before a repair, stay counted
        yard.logOut(0);
        check.due(yard.print(2, 2), 201);
        yard.logOut(2);
        yard.drain(0);
        check.letter(yard.machine(0), 'm');
        yard.putUp(0);
        yard.logIn(3, 0);
        check.due(yard.print(3, 1), 202);
    }

    private static void printNoSuchSession() {
        doc.says(20, NO_SUCH_SESSION);
        noSuchSession((y, session) -> y.print(session, 1));
    }

    private static void printOutOfRange() {
        doc.says(20, "Throws `IllegalArgumentException` if the number is out of range");
        doc.throwsArgument(SessionsEdgesTest::taken, y -> y.print(0, 0));
        doc.throwsArgument(SessionsEdgesTest::taken, y -> y.print(0, 100));
        doc.throwsArgument(SessionsEdgesTest::taken, y -> y.print(1, -1));
    }

    private static void printNotLive() {
        doc.says(20, NOT_LIVE);
        notLive(y -> y.print(0, 1));
        notLive(y -> y.print(0, 99));
    }

    /** The user 6, whose department has so many minutes, took over the session 0 a minute ago. */
    private static TerminalYard printer(int minutes) {
        TerminalYard yard = two();
        yard.takeOver(0, 6);
        yard.pass(1);
        yard.assign(6, 1);
        if (minutes > 0) {
            yard.buy(1, minutes);
        }
        return yard;
    }

    private static void printFewerMinutes() {
        doc.says(20, "Throws `UnsupportedOperationException` if the department of its user has "
                + "fewer minutes than the pages cost");
        doc.throwsUnsupported(() -> printer(0), y -> y.print(0, 1));
        doc.throwsUnsupported(() -> printer(1), y -> y.print(0, 1));
        check.due(printer(2).print(0, 1), 1);
        doc.throwsUnsupported(() -> printer(5), y -> y.print(0, 3));
        check.due(printer(6).print(0, 3), 3);
        doc.throwsUnsupported(() -> printer(197), y -> y.print(0, 99));
        check.due(printer(198).print(0, 99), 99);
        TerminalYard yard = printer(8);
        check.due(yard.print(0, 4), 4);
        check.due(yard.minutes(1), 0);
        check.letter(yard.state(0), 't');
        check.refused(UnsupportedOperationException.class, () -> yard.print(0, 1));
        // the department of the user counts, not that of the owner
        yard.assign(0, 3);
        yard.assign(6, 0);
        check.due(yard.print(0, 1), 5);
    }

    private static void stateOfASession() {
        doc.says(21, "Returns the state of a session.");
        TerminalYard yard = two();
        check.letter(yard.state(0), 'a');
        yard.takeOver(0, 1);
        check.letter(yard.state(0), 't');
        check.letter(yard.state(1), 'a');
        yard.takeOver(0, 9);
        check.letter(yard.state(0), 't');
        yard.handBack(0);
        check.letter(yard.state(0), 'a');
        yard.drain(0);
        check.letter(yard.state(0), 'a');
        yard.logOut(0);
        check.letter(yard.state(0), 'l');
    }

    private static void stateLetters() {
        doc.says(21, "Returns 'a' live, 't' live and taken over by another user than its owner, "
                + "'l' logged out, or 'o', 'i' or 'x'.");
        check.letter(two().state(0), 'a');
        check.letter(taken().state(0), 't');
        TerminalYard back = taken();
        back.takeOver(0, 0);
        check.letter(back.state(0), 'a');
        for (char how : ENDINGS.toCharArray()) {
            check.letter(ended(how).state(0), how);
            // not 't' any more, though another user than the owner was the last
            check.letter(endedOn(taken(), how).state(0), how);
        }
    }

    private static void stateNoSuchSession() {
        doc.says(21, NO_SUCH_SESSION);
        noSuchSession((y, session) -> y.state(session));
    }

    private static void machineOfASession() {
        doc.says(22, "Returns the machine of a session.");
        TerminalYard yard = taken();
        check.due(yard.machineOf(0), 0);
        check.due(yard.machineOf(1), 1);
        yard.drain(0);
        yard.handBack(0);
        check.due(yard.machineOf(0), 0);
    }

    private static void machineOfEndedSessions() {
        doc.says(22, "Returns the number of the machine, also if the session has ended.");
        for (char how : ENDINGS.toCharArray()) {
            check.due(ended(how).machineOf(0), 0);
        }
        TerminalYard yard = two();
        yard.drain(1);
        yard.logOut(1);
        check.letter(yard.machine(1), 'm');
        check.due(yard.machineOf(1), 1);
        yard.putUp(1);
        yard.logIn(4, 0);
        check.due(yard.machineOf(1), 1);
    }

    private static void machineOfNoSuchSession() {
        doc.says(22, NO_SUCH_SESSION);
        noSuchSession((y, session) -> y.machineOf(session));
    }

    private static void userOfASession() {
        doc.says(23, "Returns the user of a session.");
        TerminalYard yard = two();
        check.due(yard.userOf(0), 0);
        check.due(yard.userOf(1), 1);
        yard.takeOver(0, 9);
        check.due(yard.userOf(0), 9);
        yard.takeOver(0, 1);
        check.due(yard.userOf(0), 1);
        yard.handBack(0);
        check.due(yard.userOf(0), 0);
        check.due(yard.userOf(1), 1);
    }

    private static void userOfEndedSessions() {
        doc.says(23, "Returns the user, or the last one if it has ended.");
        for (char how : ENDINGS.toCharArray()) {
            check.due(ended(how).userOf(0), 0);
            check.due(endedOn(taken(), how).userOf(0), 5);
        }
        TerminalYard yard = endedOn(taken(), 'l');
        yard.logIn(0, 0);
        check.due(yard.userOf(0), 5);
    }

    private static void userOfNoSuchSession() {
        doc.says(23, NO_SUCH_SESSION);
        noSuchSession((y, session) -> y.userOf(session));
    }

    private static void chargedFromADepartment() {
        doc.says(24, "Returns what was charged to a session from a department.");
        TerminalYard yard = secondDepartment(50);
        yard.takeOver(0, 6);
        yard.pass(4);
        yard.print(0, 5);
        check.due(yard.charged(0, 0), 3);
        check.due(yard.charged(0, 1), 14);
        check.due(yard.charged(1, 0), 7);
        check.due(yard.charged(1, 1), 0);
        // what is charged stays with the department, wherever the user is put
        yard.assign(6, 0);
        check.due(yard.charged(0, 1), 14);
        yard.pass(1);
        check.due(yard.charged(0, 0), 4);
        yard.logOut(0);
        check.due(yard.charged(0, 0), 4);
        check.due(yard.charged(0, 1), 14);
    }

    private static void chargedDepartment() {
        doc.says(24, "`department`: the department, 0 to 3");
        TerminalYard yard = yard();
        yard.logIn(0, 0);
        for (int department = 0; department <= 3; department++) {
            yard.buy(department, 20);
            yard.assign(0, department);
            yard.pass(department + 3);
        }
        for (int department = 0; department <= 3; department++) {
            check.due(yard.charged(0, department), department + 3);
        }
    }

    private static void chargedMinutes() {
        doc.says(24, "Returns the minutes.");
        TerminalYard yard = two();
        yard.logIn(2, 0);
        check.due(yard.charged(2, 0), 0);
        yard.print(2, 1);
        check.due(yard.charged(2, 0), 2);
        yard.pass(1);
        check.due(yard.charged(2, 0), 3);
        check.due(yard.charged(2, 3), 0);
    }

    private static void chargedNoSuchSession() {
        doc.says(24, NO_SUCH_SESSION);
        noSuchSession((y, session) -> y.charged(session, 0));
    }

    private static void chargedNoSuchDepartment() {
        doc.says(24, "Throws `IllegalArgumentException` if there is no such department");
        for (int wrong : Sentences.outside(0, 3)) {
            doc.throwsArgument(SessionsEdgesTest::two, y -> y.charged(0, wrong));
            doc.throwsArgument(() -> ended('l'), y -> y.charged(0, wrong));
        }
    }

    private static final String ENDS_IN = "Returns in how many minutes a live session would end by "
            + "a limit of its pool, if it was not used any more.";

    private static void endsInByALimit() {
        doc.says(25, ENDS_IN);
        TerminalYard yard = two();
        yard.addMachine(1, 0, 1);
        yard.setLimits(0, 10, 18);
        yard.logIn(2, 1);
        check.due(yard.endsIn(0), 7);
        check.due(yard.endsIn(2), 30);
        yard.use(0);
        check.due(yard.endsIn(0), 10);
        yard.pass(5);
        check.due(yard.endsIn(0), 5);
        yard.takeOver(0, 5);
        // both limits are as far, and then the hard one is nearer
        check.due(yard.endsIn(0), 10);
        yard.pass(3);
        yard.handBack(0);
        check.due(yard.endsIn(0), 7);
        check.due(yard.endsIn(2), 22);
    }

    private static void endsInByNothingElse() {
        doc.says(25, ENDS_IN);
        // neither the minutes that are left nor the last time count
        TerminalYard poor = secondDepartment(2);
        poor.takeOver(0, 6);
        check.due(poor.endsIn(0), 30);
        poor.pass(2);
        check.due(poor.minutes(1), 0);
        check.due(poor.endsIn(0), 28);
        TerminalYard late = yard();
        for (int hour = 0; hour < 83; hour++) {
            late.pass(60);
        }
        late.pass(19);
        late.logIn(0, 0);
        check.due(late.endsIn(0), 30);
        late.pass(1);
        check.due(late.endsIn(0), 29);
    }

    private static void endsInComesTrue() {
        doc.says(25, ENDS_IN);
        for (int idle = 1; idle <= 7; idle++) {
            for (int hard = 1; hard <= 7; hard++) {
                TerminalYard yard = two();
                yard.use(0);
                yard.setLimits(0, idle, hard);
                int due = Math.max(1, Math.min(idle, hard - 3));
                check.due(yard.endsIn(0), due);
                for (int left = due; left > 0; left--) {
                    check.due(yard.endsIn(0), left);
                    check.letter(yard.state(0), 'a');
                    yard.pass(1);
                }
                check.letter(yard.state(0), idle <= due ? 'i' : 'x');
            }
        }
    }

    private static void endsInAtLeastOne() {
        doc.says(25, "Returns the least number of minutes that would have to pass, at least 1.");
        int[][] limits = {{4, 999}, {999, 4}, {3, 999}, {999, 3}, {1, 1}, {3, 3}, {2, 999}, {999, 1}};
        for (int[] limit : limits) {
            TerminalYard yard = two();
            yard.setLimits(0, limit[0], limit[1]);
            check.due(yard.endsIn(0), 1);
            check.letter(yard.state(0), 'a');
            yard.pass(1);
            check.letter(yard.state(0), limit[0] <= 4 ? 'i' : 'x');
        }
        TerminalYard yard = two();
        yard.setLimits(0, 5, 999);
        check.due(yard.endsIn(0), 2);
        yard.setLimits(0, 999, 5);
        check.due(yard.endsIn(0), 2);
        yard.setLimits(0, 999, 999);
        check.due(yard.endsIn(0), 996);
    }

    private static void endsInNoSuchSession() {
        doc.says(25, NO_SUCH_SESSION);
        noSuchSession((y, session) -> y.endsIn(session));
    }

    private static void endsInNotLive() {
        doc.says(25, NOT_LIVE);
        notLive(y -> y.endsIn(0));
    }
}
