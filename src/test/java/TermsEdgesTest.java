import java.io.IOException;
import java.util.NoSuchElementException;
import java.util.function.Consumer;

/** What 'Terms' says, sentence by sentence. */
final class TermsEdgesTest {

    private static final int TERMS = Sentences.TERMS;
    private static final String ENDINGS = "loix";

    private static final Check check = new Check();
    private static Sentences doc;

    public static void main(String[] args) throws IOException {
        doc = new Sentences(check, args);
        calls();
        timeAndNumbers();
        sessions();
        charging();
        drainingAndLending();
        exceptions();
        doc.eachHasATest(TERMS, TERMS);
        check.close();
    }

    private static void calls() {
        looksChangeNothing();
        noMinuteIsChargedTwice();
        noDrainedMachineTakesASession();
    }

    private static void timeAndNumbers() {
        timeUpTo5000();
        poolsAndTheirFirstLimits();
        sixMachines();
        machineIsUpAtFirst();
        departmentsAndUsers();
    }

    private static void sessions() {
        fortySessions();
        ownerMachineAndUser();
        seatAsLongAsLive();
        oneLiveSessionAnOwner();
        usedLast();
        notUsedByOtherCalls();
    }

    private static void charging() {
        departmentOfItsUserPays();
        minuteIncreasesTheTimeFirst();
        minuteByRisingNumbers();
        minuteWithNoMinuteLeft();
        minuteThatIsTheLast();
        minuteIsChargedBeforeALimit();
        minuteAndTheIdleLimit();
        minuteAndTheHardLimit();
        minuteReachesBothLimits();
        minuteAndTheLimitsOfItsPool();
        pageCostsTwoMinutes();
    }

    private static void drainingAndLending() {
        drainingTakesNoNewSessions();
        inRepairAsSoonAsEmpty();
        lentUntilGivenBack();
    }

    private static void exceptions() {
        refusedCallsChangeNothing();
        firstOfMachines();
        firstOfDepartments();
        firstOfLogIn();
        firstOfSessions();
    }

    /** A machine with 4 seats in the pool 0, and these minutes in the department 0. */
    private static TerminalYard yard(int minutes) {
        TerminalYard yard = new TerminalYard();
        yard.addMachine(0, 0, 4);
        if (minutes > 0) {
            yard.buy(0, minutes);
        }
        return yard;
    }

    /** As yard(), and the users 0 to sessions - 1 are logged in. */
    private static TerminalYard live(int sessions, int minutes) {
        TerminalYard yard = yard(minutes);
        for (int user = 0; user < sessions; user++) {
            yard.logIn(user, 0);
        }
        return yard;
    }

    /** Ends the session 0 within at most 30 minutes. */
    private static void end(TerminalYard yard, char how) {
        switch (how) {
            case 'l':
                yard.logOut(0);
                break;
            case 'o':
                yard.assign(yard.userOf(0), 3);
                yard.pass(1);
                break;
            case 'i':
                yard.setLimits(0, 1, 999);
                yard.pass(1);
                break;
            default:
                yard.setLimits(0, 999, 1);
                yard.pass(1);
        }
        check.letter(yard.state(0), how);
    }

    private static void looksChangeNothing() {
        doc.says(TERMS, "Its calls are those of an attendant: machines, departments and users are "
                + "entered, users log in, print and log out, minutes pass, and all other calls look.");
        TerminalYard looked = busy();
        for (int number = 0; number <= 2; number++) {
            looked.machine(number);
            looked.free(number);
            looked.minutes(number);
            looked.minutesBySessions(number);
            looked.state(number);
            looked.machineOf(number);
            looked.userOf(number);
            looked.charged(number, 0);
        }
        looked.next(0);
        looked.endsIn(0);
        looked.endsIn(1);
        looked.time();
        looked.pageShare();
        looked.meanCharge();
        check.text(Light.on(looked), Light.on(busy()));
    }

    /** Machines up, draining and in repair, sessions live, taken over and ended, and debts. */
    private static TerminalYard busy() {
        TerminalYard yard = live(2, 500);
        yard.addMachine(0, 1, 2);
        yard.addMachine(1, 2, 1);
        yard.logIn(2, 0);
        yard.logIn(3, 1);
        yard.pass(4);
        yard.print(1, 6);
        yard.takeOver(1, 8);
        yard.assign(8, 1);
        yard.lend(0, 1, 70);
        yard.logOut(2);
        yard.drain(0);
        yard.pass(3);
        return yard;
    }

    private static void noMinuteIsChargedTwice() {
        doc.says(TERMS, "No minute is charged twice, and no drained machine takes a session.");
        TerminalYard yard = live(1, 300);
        yard.buy(1, 100);
        yard.assign(5, 1);
        yard.pass(4);
        yard.takeOver(0, 5);
        yard.pass(3);
        yard.takeOver(0, 0);
        yard.print(0, 2);
        yard.pass(2);
        check.due(yard.charged(0, 0), 4 + 4 + 2);
        check.due(yard.charged(0, 1), 3);
        check.due(yard.minutes(0), 290);
        check.due(yard.minutes(1), 97);
        // nor by ending, looking or putting the user elsewhere
        yard.assign(0, 1);
        check.due(yard.logOut(0), 13);
        yard.pass(5);
        check.due(yard.minutes(0), 290);
        check.due(yard.minutes(1), 97);
    }

    private static void noDrainedMachineTakesASession() {
        doc.says(TERMS, "No minute is charged twice, and no drained machine takes a session.");
        TerminalYard yard = live(1, 300);
        yard.addMachine(0, 0, 4);
        yard.addMachine(0, 0, 1);
        yard.drain(0);
        yard.drain(1);
        check.letter(yard.machine(0), 'g');
        check.letter(yard.machine(1), 'm');
        check.due(yard.machineOf(yard.logIn(1, 0)), 2);
        check.refused(NoSuchElementException.class, () -> yard.logIn(2, 0));
        check.due(yard.free(0), 0);
    }

    private static void timeUpTo5000() {
        doc.says(TERMS, "Time is counted in minutes from 0, up to 5000.");
        TerminalYard yard = yard(0);
        check.due(yard.time(), 0);
        for (int hour = 1; hour <= 83; hour++) {
            yard.pass(60);
            check.due(yard.time(), 60 * hour);
        }
        yard.pass(20);
        check.due(yard.time(), 5000);
        check.refused(IllegalArgumentException.class, () -> yard.pass(1));
        check.due(yard.time(), 5000);
    }

    private static void poolsAndTheirFirstLimits() {
        doc.says(TERMS, "There are the pools 0 to 2, each with an idle limit, at first 30, and a hard "
                + "limit, at first 240.");
        for (int pool = 0; pool <= 2; pool++) {
            TerminalYard yard = new TerminalYard();
            yard.buy(0, 1000);
            yard.addMachine(pool, 0, 2);
            yard.logIn(0, pool);
            yard.logIn(1, pool);
            yard.pass(29);
            check.letter(yard.state(1), 'a');
            yard.use(0);
            check.due(yard.pass(1), 1);
            check.letter(yard.state(1), 'i');
            for (int time = 2; time <= 11; time++) {
                check.due(yard.pass(20), 0);
                yard.use(0);
            }
            check.due(yard.pass(9), 0);
            check.due(yard.time(), 239);
            check.due(yard.pass(1), 1);
            check.letter(yard.state(0), 'x');
            check.due(yard.setLimits(pool, 1, 1), 30);
        }
        doc.throwsArgument(TermsEdgesTest::busy, y -> y.free(3));
        doc.throwsArgument(TermsEdgesTest::busy, y -> y.free(-1));
    }

    private static void sixMachines() {
        doc.says(TERMS, "At most 6 machines are numbered from 0; a machine has a pool, a room from 0 "
                + "to 2, and from 1 to 4 seats.");
        TerminalYard yard = new TerminalYard();
        yard.buy(0, 1000);
        for (int machine = 0; machine < 6; machine++) {
            check.due(yard.addMachine(machine % 3, (machine + 1) % 3, 1 + machine % 4), machine);
        }
        check.refused(IllegalStateException.class, () -> yard.addMachine(0, 0, 1));
        check.due(yard.free(0), 1 + 4);
        check.due(yard.free(1), 2 + 1);
        check.due(yard.free(2), 3 + 2);
        for (int pool = 0; pool <= 2; pool++) {
            check.due(yard.machineOf(yard.logIn(pool, pool)), pool);
            check.due(yard.machineOf(yard.logIn(pool + 3, pool)), pool + 3);
        }
        // two machines stand in each room
        for (int session = 0; session < 6; session++) {
            check.due(yard.print(session, 1), 1 + session % 2);
        }
    }

    private static void machineIsUpAtFirst() {
        doc.says(TERMS, "It is up, as at first, draining, or in repair.");
        TerminalYard yard = live(1, 9);
        check.letter(yard.machine(0), 'u');
        yard.drain(0);
        check.letter(yard.machine(0), 'g');
        yard.logOut(0);
        check.letter(yard.machine(0), 'm');
        yard.addMachine(0, 0, 1);
        check.letter(yard.machine(1), 'u');
    }

    private static void departmentsAndUsers() {
        doc.says(TERMS, "There are the departments 0 to 3, each with minutes, 0 at first, and the "
                + "users 0 to 9, each of a department, at first of the department 0.");
        TerminalYard yard = new TerminalYard();
        for (int department = 0; department <= 3; department++) {
            check.due(yard.minutes(department), 0);
            check.due(yard.minutesBySessions(department), 0);
            check.due(yard.buy(department, 1 + department), 1 + department);
        }
        for (int user = 0; user <= 9; user++) {
            check.due(yard.assign(user, 3), 0);
        }
        doc.throwsArgument(TermsEdgesTest::busy, y -> y.minutes(4));
        doc.throwsArgument(TermsEdgesTest::busy, y -> y.minutes(-1));
        doc.throwsArgument(TermsEdgesTest::busy, y -> y.assign(10, 0));
        doc.throwsArgument(TermsEdgesTest::busy, y -> y.assign(-1, 0));
    }

    private static void fortySessions() {
        doc.says(TERMS, "At most 40 sessions are numbered from 0.");
        TerminalYard yard = yard(100);
        for (int session = 0; session < 40; session++) {
            check.due(yard.logIn(session % 10, 0), session);
            if (session % 4 == 3) {
                check.due(yard.free(0), 0);
                for (int back = 3; back >= 0; back--) {
                    yard.logOut(session - back);
                }
            }
        }
        check.refused(IllegalStateException.class, () -> yard.logIn(0, 0));
        check.refused(IndexOutOfBoundsException.class, () -> yard.state(40));
        check.letter(yard.state(0), 'l');
    }

    private static void ownerMachineAndUser() {
        doc.says(TERMS, "A session has an owner, a machine, and a user, which is the owner unless it "
                + "is taken over.");
        TerminalYard yard = yard(100);
        yard.logIn(6, 0);
        check.due(yard.machineOf(0), 0);
        check.due(yard.userOf(0), 6);
        yard.takeOver(0, 2);
        check.due(yard.userOf(0), 2);
        // it is the owner's still
        check.refused(IllegalStateException.class, () -> yard.logIn(6, 0));
        check.due(yard.logIn(2, 0), 1);
        check.due(yard.handBack(0), 2);
        check.due(yard.userOf(0), 6);
    }

    private static void seatAsLongAsLive() {
        doc.says(TERMS, "It is live until it ends, and takes a seat as long as it is live.");
        for (char how : ENDINGS.toCharArray()) {
            TerminalYard yard = live(1, 100);
            yard.pass(29);
            yard.takeOver(0, 4);
            check.due(yard.free(0), 3);
            check.letter(yard.state(0), 't');
            end(yard, how);
            check.due(yard.free(0), 4);
            check.refused(IllegalStateException.class, () -> yard.use(0));
            // and it ends once only
            yard.pass(60);
            check.letter(yard.state(0), how);
            check.due(yard.free(0), 4);
        }
    }

    private static void oneLiveSessionAnOwner() {
        doc.says(TERMS, "A user owns at most one live session.");
        doc.throwsState(() -> live(1, 100), y -> y.logIn(0, 0));
        for (char how : ENDINGS.toCharArray()) {
            TerminalYard yard = live(1, 100);
            end(yard, how);
            yard.assign(0, 0);
            check.due(yard.logIn(0, 0), 1);
            check.refused(IllegalStateException.class, () -> yard.logIn(0, 0));
        }
    }

    private static void usedLast() {
        doc.says(TERMS, "It was used last when it began, was used, was taken over or handed back, or "
                + "printed.");
        TerminalYard yard = yard(200);
        yard.pass(7);
        yard.logIn(0, 0);
        yard.pass(5);
        check.due(yard.use(0), 5);
        yard.pass(4);
        check.due(yard.use(0), 4);
        yard.pass(3);
        yard.takeOver(0, 1);
        yard.pass(6);
        check.due(yard.use(0), 6);
        yard.pass(3);
        yard.takeOver(0, 0);
        yard.pass(8);
        check.due(yard.use(0), 8);
        yard.takeOver(0, 1);
        yard.pass(3);
        yard.handBack(0);
        yard.pass(9);
        check.due(yard.use(0), 9);
        yard.pass(3);
        yard.print(0, 1);
        yard.pass(2);
        check.due(yard.use(0), 2);
    }

    private static void notUsedByOtherCalls() {
        doc.says(TERMS, "It was used last when it began, was used, was taken over or handed back, or "
                + "printed.");
        TerminalYard yard = live(2, 100);
        yard.pass(6);
        yard.use(1);
        yard.print(1, 1);
        yard.takeOver(1, 5);
        yard.logOut(1);
        yard.assign(0, 1);
        yard.buy(1, 5);
        yard.setLimits(0, 50, 50);
        yard.drain(0);
        yard.putUp(0);
        yard.logIn(1, 0);
        check.refused(IllegalArgumentException.class, () -> yard.print(0, 0));
        check.refused(IllegalArgumentException.class, () -> yard.takeOver(0, 0));
        check.refused(IllegalStateException.class, () -> yard.handBack(0));
        check.due(yard.endsIn(0), 44);
        check.due(yard.use(0), 6);
    }

    private static void departmentOfItsUserPays() {
        doc.says(TERMS, "What is charged to a session is taken from the minutes of the department of "
                + "its user.");
        TerminalYard yard = live(1, 100);
        yard.buy(1, 100);
        yard.buy(2, 100);
        yard.assign(4, 1);
        yard.pass(1);
        yard.print(0, 1);
        yard.takeOver(0, 4);
        yard.pass(2);
        yard.print(0, 2);
        yard.assign(4, 2);
        yard.pass(3);
        yard.print(0, 3);
        yard.handBack(0);
        yard.pass(4);
        yard.print(0, 4);
        check.due(yard.minutes(0), 100 - 3 - 12);
        check.due(yard.minutes(1), 100 - 6);
        check.due(yard.minutes(2), 100 - 9);
        check.due(yard.charged(0, 0), 15);
        check.due(yard.charged(0, 1), 6);
        check.due(yard.charged(0, 2), 9);
    }

    private static final String MINUTE = "When a minute passes, the time increases by 1, and then, for "
            + "each live session, by rising numbers: if this department has no minute left, the "
            + "session ends, 'o'; otherwise, 1 minute is charged to it, and then, if at least as many "
            + "minutes as the idle limit of the pool of its machine have passed since it was used "
            + "last, it ends, 'i'; otherwise, if at least as many as the hard limit have passed since "
            + "it began, it ends, 'x'.";

    private static void minuteIncreasesTheTimeFirst() {
        doc.says(TERMS, MINUTE);
        TerminalYard yard = yard(100);
        yard.pass(5);
        yard.setLimits(0, 1, 999);
        yard.logIn(0, 0);
        check.due(yard.pass(1), 1);
        check.letter(yard.state(0), 'i');
        yard.setLimits(0, 999, 1);
        yard.logIn(0, 0);
        check.due(yard.pass(1), 1);
        check.letter(yard.state(1), 'x');
        check.due(yard.time(), 7);
    }

    private static void minuteByRisingNumbers() {
        doc.says(TERMS, MINUTE);
        TerminalYard yard = yard(7);
        // by the numbers of the sessions, not by those of the users
        for (int user = 3; user >= 0; user--) {
            yard.logIn(user, 0);
        }
        check.due(yard.pass(1), 0);
        check.due(yard.pass(1), 1);
        check.letter(yard.state(3), 'o');
        for (int session = 0; session <= 2; session++) {
            check.letter(yard.state(session), 'a');
            check.due(yard.charged(session, 0), 2);
        }
        check.due(yard.charged(3, 0), 1);
        yard.buy(0, 2);
        check.due(yard.pass(1), 1);
        check.letter(yard.state(2), 'o');
        check.due(yard.pass(1), 2);
        check.letter(yard.state(0), 'o');
        check.due(yard.minutes(0), 0);
    }

    private static void minuteWithNoMinuteLeft() {
        doc.says(TERMS, MINUTE);
        TerminalYard yard = live(2, 100);
        yard.assign(0, 1);
        check.due(yard.pass(1), 1);
        check.letter(yard.state(0), 'o');
        check.letter(yard.state(1), 'a');
        check.due(yard.charged(0, 0), 0);
        check.due(yard.charged(0, 1), 0);
        check.due(yard.minutes(1), 0);
        // even if its limits are reached in this minute
        TerminalYard both = live(1, 1);
        both.pass(1);
        both.setLimits(0, 2, 2);
        check.due(both.pass(1), 1);
        check.letter(both.state(0), 'o');
        check.due(both.charged(0, 0), 1);
    }

    private static void minuteThatIsTheLast() {
        doc.says(TERMS, MINUTE);
        TerminalYard yard = live(1, 2);
        check.due(yard.pass(2), 0);
        check.due(yard.minutes(0), 0);
        check.letter(yard.state(0), 'a');
        check.due(yard.pass(1), 1);
        check.letter(yard.state(0), 'o');
        check.due(yard.charged(0, 0), 2);
        // minutes that come in time let it go on
        TerminalYard late = live(1, 2);
        late.pass(2);
        late.buy(0, 1);
        check.due(late.pass(1), 0);
        check.letter(late.state(0), 'a');
        check.due(late.charged(0, 0), 3);
    }

    private static void minuteIsChargedBeforeALimit() {
        doc.says(TERMS, MINUTE);
        int[][] limits = {{3, 999}, {999, 3}};
        for (int[] limit : limits) {
            TerminalYard yard = live(1, 3);
            yard.setLimits(0, limit[0], limit[1]);
            check.due(yard.pass(10), 1);
            check.letter(yard.state(0), limit[0] == 3 ? 'i' : 'x');
            check.due(yard.charged(0, 0), 3);
            check.due(yard.minutes(0), 0);
        }
    }

    private static void minuteAndTheIdleLimit() {
        doc.says(TERMS, MINUTE);
        TerminalYard yard = live(2, 500);
        yard.setLimits(0, 10, 999);
        yard.pass(4);
        yard.use(1);
        check.due(yard.pass(5), 0);
        check.due(yard.pass(1), 1);
        check.letter(yard.state(0), 'i');
        check.letter(yard.state(1), 'a');
        check.due(yard.pass(3), 0);
        check.due(yard.pass(1), 1);
        check.letter(yard.state(1), 'i');
        // more minutes than a limit that was lowered
        TerminalYard lowered = live(1, 500);
        lowered.pass(20);
        lowered.setLimits(0, 5, 999);
        check.letter(lowered.state(0), 'a');
        check.due(lowered.pass(1), 1);
        check.letter(lowered.state(0), 'i');
    }

    private static void minuteAndTheHardLimit() {
        doc.says(TERMS, MINUTE);
        TerminalYard yard = live(1, 500);
        yard.setLimits(0, 999, 10);
        yard.pass(4);
        yard.logIn(1, 0);
        check.due(yard.pass(5), 0);
        yard.use(0);
        yard.use(1);
        check.due(yard.pass(1), 1);
        check.letter(yard.state(0), 'x');
        check.letter(yard.state(1), 'a');
        check.due(yard.pass(3), 0);
        yard.takeOver(1, 7);
        check.due(yard.pass(1), 1);
        check.letter(yard.state(1), 'x');
        // no use of any kind lets it begin anew
        TerminalYard used = live(1, 500);
        used.setLimits(0, 999, 10);
        used.pass(6);
        used.print(0, 1);
        used.takeOver(0, 5);
        used.pass(1);
        used.handBack(0);
        used.print(0, 1);
        check.due(used.endsIn(0), 3);
        check.due(used.pass(2), 0);
        check.due(used.pass(1), 1);
        check.letter(used.state(0), 'x');
        TerminalYard lowered = live(1, 500);
        lowered.pass(20);
        lowered.setLimits(0, 999, 5);
        check.letter(lowered.state(0), 'a');
        check.due(lowered.pass(1), 1);
        check.letter(lowered.state(0), 'x');
    }

    private static void minuteReachesBothLimits() {
        doc.says(TERMS, MINUTE);
        TerminalYard yard = live(1, 500);
        yard.setLimits(0, 6, 6);
        check.due(yard.pass(6), 1);
        check.letter(yard.state(0), 'i');
        TerminalYard used = live(1, 500);
        used.setLimits(0, 6, 6);
        used.pass(1);
        used.use(0);
        check.due(used.pass(5), 1);
        check.letter(used.state(0), 'x');
    }

    private static void minuteAndTheLimitsOfItsPool() {
        doc.says(TERMS, MINUTE);
        TerminalYard yard = yard(500);
        yard.addMachine(2, 0, 1);
        yard.addMachine(1, 0, 1);
        yard.setLimits(0, 4, 999);
        yard.setLimits(1, 999, 5);
        yard.setLimits(2, 7, 6);
        yard.logIn(0, 1);
        yard.logIn(1, 2);
        yard.logIn(2, 0);
        check.due(yard.pass(3), 0);
        check.due(yard.pass(1), 1);
        check.letter(yard.state(2), 'i');
        check.due(yard.pass(1), 1);
        check.letter(yard.state(0), 'x');
        check.due(yard.pass(1), 1);
        check.letter(yard.state(1), 'x');
    }

    private static void pageCostsTwoMinutes() {
        doc.says(TERMS, "A page costs 2 minutes.");
        TerminalYard yard = live(1, 500);
        yard.print(0, 1);
        check.due(yard.minutes(0), 498);
        check.due(yard.charged(0, 0), 2);
        yard.print(0, 99);
        check.due(yard.minutes(0), 300);
        check.due(yard.charged(0, 0), 200);
    }

    private static void drainingTakesNoNewSessions() {
        doc.says(TERMS, "A machine that is draining takes no new sessions.");
        doc.throwsNoSuchElement(() -> {
            TerminalYard yard = live(1, 100);
            yard.drain(0);
            check.letter(yard.machine(0), 'g');
            return yard;
        }, y -> y.logIn(1, 0));
        // those that it has go on, and may be taken over
        TerminalYard yard = live(1, 100);
        yard.drain(0);
        check.due(yard.pass(1), 0);
        check.due(yard.takeOver(0, 3), 0);
        check.due(yard.handBack(0), 3);
        check.due(yard.print(0, 1), 1);
        yard.putUp(0);
        check.due(yard.logIn(1, 0), 1);
    }

    private static void inRepairAsSoonAsEmpty() {
        doc.says(TERMS, "As soon as it has no live session, it is in repair.");
        for (char how : ENDINGS.toCharArray()) {
            TerminalYard yard = live(1, 100);
            yard.drain(0);
            check.letter(yard.machine(0), 'g');
            end(yard, how);
            check.letter(yard.machine(0), 'm');
        }
        TerminalYard empty = yard(100);
        empty.drain(0);
        check.letter(empty.machine(0), 'm');
        // not while it has one of several, and not if it is up
        TerminalYard yard = live(3, 100);
        yard.drain(0);
        yard.logOut(1);
        check.letter(yard.machine(0), 'g');
        yard.logOut(0);
        check.letter(yard.machine(0), 'g');
        yard.logOut(2);
        check.letter(yard.machine(0), 'm');
        TerminalYard up = live(1, 100);
        up.logOut(0);
        check.letter(up.machine(0), 'u');
    }

    private static void lentUntilGivenBack() {
        doc.says(TERMS, "A department can lend minutes to another one, which owes them to it then, "
                + "until it has given them back.");
        TerminalYard yard = yard(100);
        check.due(yard.lend(0, 2, 40), 40);
        check.due(yard.minutes(0), 60);
        check.due(yard.minutes(2), 40);
        check.due(yard.giveBack(2, 0, 15), 25);
        check.due(yard.giveBack(2, 0, 25), 0);
        check.due(yard.minutes(0), 100);
        check.due(yard.minutes(2), 0);
        yard.buy(2, 1);
        check.refused(IllegalStateException.class, () -> yard.giveBack(2, 0, 1));
        // spent minutes are owed still
        yard.lend(0, 3, 10);
        yard.assign(5, 3);
        yard.logIn(5, 0);
        yard.print(0, 5);
        check.due(yard.lend(0, 3, 1), 11);
    }

    private static void refusedCallsChangeNothing() {
        doc.says(TERMS, "A method that throws an exception changes nothing.");
        // one call for each exception here; RefusalTest makes all calls that can be refused
        doc.throwsArgument(TermsEdgesTest::busy, y -> y.setLimits(0, 2, 1000));
        doc.throwsState(TermsEdgesTest::busy, y -> y.logOut(2));
        doc.throwsIndex(TermsEdgesTest::busy, y -> y.print(4, 1));
        doc.throwsUnsupported(TermsEdgesTest::busy, y -> y.lend(1, 0, 99));
        doc.throwsNoSuchElement(TermsEdgesTest::busy, y -> y.logIn(5, 1));
        doc.throwsArithmetic(() -> live(1, 10), y -> y.pageShare());
    }

    private static final String FIRST = "If several exceptions apply, the one that is documented first "
            + "is thrown.";

    private static void firstOfMachines() {
        doc.says(TERMS, FIRST);
        int[][] wrong = {{3, 0, 1}, {0, 3, 1}, {0, 0, 5}};
        for (int[] call : wrong) {
            doc.throwsArgument(() -> {
                TerminalYard yard = new TerminalYard();
                for (int machine = 0; machine < 6; machine++) {
                    yard.addMachine(0, 0, 1);
                }
                return yard;
            }, y -> y.addMachine(call[0], call[1], call[2]));
        }
    }

    private static TerminalYard rich() {
        TerminalYard yard = new TerminalYard();
        for (int time = 0; time < 20; time++) {
            yard.buy(0, time == 0 ? 4999 : 5000);
        }
        return yard;
    }

    private static void firstOfDepartments() {
        doc.says(TERMS, FIRST);
        // out of range, and more than 99999
        doc.throwsArgument(TermsEdgesTest::rich, y -> y.buy(0, 5001));
        doc.throwsArgument(TermsEdgesTest::rich, y -> y.buy(0, Integer.MAX_VALUE));
        // out of range or the same, and more than there is
        doc.throwsArgument(TerminalYard::new, y -> y.lend(0, 1, 5001));
        doc.throwsArgument(TerminalYard::new, y -> y.lend(0, 4, 1));
        doc.throwsArgument(TerminalYard::new, y -> y.lend(2, 2, 1));
        // out of range or the same, and more than is owed
        doc.throwsArgument(TerminalYard::new, y -> y.giveBack(0, 1, 5001));
        doc.throwsArgument(TerminalYard::new, y -> y.giveBack(0, 4, 1));
        doc.throwsArgument(TerminalYard::new, y -> y.giveBack(2, 2, 1));
        // more than is owed, and more than there is
        doc.throwsState(TerminalYard::new, y -> y.giveBack(0, 1, 1));
        doc.throwsState(() -> {
            TerminalYard yard = live(1, 50);
            yard.lend(0, 1, 20);
            yard.lend(1, 2, 20);
            return yard;
        }, y -> y.giveBack(1, 0, 21));
        doc.throwsUnsupported(() -> {
            TerminalYard yard = live(1, 50);
            yard.lend(0, 1, 20);
            yard.lend(1, 2, 20);
            return yard;
        }, y -> y.giveBack(1, 0, 20));
    }

    /** Forty sessions have been, the department 0 has no minute, and no machine is up. */
    private static TerminalYard nothingLeft() {
        TerminalYard yard = yard(1);
        for (int session = 0; session < 40; session++) {
            yard.logIn(session % 10, 0);
            yard.logOut(session);
        }
        yard.drain(0);
        yard.lend(0, 1, 1);
        return yard;
    }

    /** The user 0 owns a live session, the department 0 has no minute, and no machine is up. */
    private static TerminalYard ownsOne() {
        TerminalYard yard = live(1, 1);
        yard.drain(0);
        yard.pass(1);
        return yard;
    }

    private static void firstOfLogIn() {
        doc.says(TERMS, FIRST);
        doc.throwsArgument(TermsEdgesTest::nothingLeft, y -> y.logIn(10, 0));
        doc.throwsArgument(TermsEdgesTest::nothingLeft, y -> y.logIn(0, 3));
        doc.throwsState(TermsEdgesTest::nothingLeft, y -> y.logIn(0, 0));
        doc.throwsArgument(TermsEdgesTest::ownsOne, y -> y.logIn(0, 3));
        doc.throwsState(TermsEdgesTest::ownsOne, y -> y.logIn(0, 0));
        doc.throwsUnsupported(TermsEdgesTest::ownsOne, y -> y.logIn(1, 0));
        doc.throwsArgument(TermsEdgesTest::ownsOne, y -> y.logIn(1, 3));
        doc.throwsUnsupported(TerminalYard::new, y -> y.logIn(1, 0));
    }

    /** The session 0 was logged out while the user 5 had it, and the department 0 has no minute. */
    private static TerminalYard endedPoor() {
        TerminalYard yard = live(1, 1);
        yard.takeOver(0, 5);
        yard.pass(1);
        yard.logOut(0);
        return yard;
    }

    private static void firstOfSessions() {
        doc.says(TERMS, FIRST);
        refusedInTurn(y -> y.takeOver(1, 10), y -> y.takeOver(0, 10), y -> y.takeOver(0, 1));
        refusedInTurn(y -> y.takeOver(-1, 5), y -> y.takeOver(0, 5), y -> y.takeOver(0, 0));
        refusedInTurn(y -> y.print(1, 0), y -> y.print(0, 100), y -> y.print(0, 1));
        doc.throwsIndex(TermsEdgesTest::endedPoor, y -> y.charged(1, 4));
        doc.throwsIndex(TermsEdgesTest::endedPoor, y -> y.charged(-1, -1));
        // a live one, and a department without a minute
        TerminalYard yard = live(1, 1);
        yard.takeOver(0, 5);
        yard.pass(1);
        check.refused(IllegalArgumentException.class, () -> yard.takeOver(0, 5));
        check.refused(UnsupportedOperationException.class, () -> yard.takeOver(0, 0));
        check.refused(IllegalArgumentException.class, () -> yard.print(0, 100));
        check.refused(UnsupportedOperationException.class, () -> yard.print(0, 1));
    }

    private static void refusedInTurn(
            Consumer<TerminalYard> index,
            Consumer<TerminalYard> argument,
            Consumer<TerminalYard> state) {
        doc.throwsIndex(TermsEdgesTest::endedPoor, index);
        doc.throwsArgument(TermsEdgesTest::endedPoor, argument);
        doc.throwsState(TermsEdgesTest::endedPoor, state);
    }
}
