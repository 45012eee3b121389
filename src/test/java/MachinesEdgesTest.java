import java.io.IOException;
import java.util.NoSuchElementException;

/** Promises 1 to 8, sentence by sentence. */
final class MachinesEdgesTest {

    private static final Check check = new Check();
    private static Sentences doc;

    public static void main(String[] args) throws IOException {
        doc = new Sentences(check, args);
        newYard();
        addMachine();
        setLimits();
        drain();
        putUp();
        machine();
        next();
        free();
        doc.eachHasATest(1, 8);
        check.close();
    }

    private static void addMachine() {
        addsMachineThatIsUp();
        addMachinePool();
        addMachineRoom();
        addMachineSeats();
        addMachineNumber();
        addMachineOutOfRange();
        addMachineSix();
    }

    private static void setLimits() {
        setsLimitsOfLiveSessions();
        setsLimitsReachedAlready();
        setLimitsPool();
        setLimitsIdle();
        setLimitsHard();
        setLimitsIdleBefore();
        setLimitsOutOfRange();
    }

    private static void drain() {
        drains();
        drainLiveSessions();
        drainNoSuchMachine();
        drainNotUp();
    }

    private static void putUp() {
        putsUp();
        putUpFreeSeats();
        putUpNoSuchMachine();
        putUpIsUp();
    }

    private static void machine() {
        machineHowItIs();
        machineLetters();
        machineNoSuch();
    }

    private static void next() {
        nextOfThePool();
        nextThatIsUp();
        nextWithAFreeSeat();
        nextFewestLiveSessions();
        nextLowestNumber();
        nextIsWhatASessionGets();
        nextPool();
        nextNumber();
        nextNoSuchPool();
        nextNone();
    }

    private static void free() {
        freeOfThoseThatAreUp();
        freePool();
        freeNumber();
        freeNoSuchPool();
    }

    private static TerminalYard rich() {
        TerminalYard yard = new TerminalYard();
        yard.buy(0, 5000);
        return yard;
    }

    /** Machines in the pool 0 with these numbers of seats, and 5000 minutes in the department 0. */
    private static TerminalYard seats(int... seats) {
        TerminalYard yard = rich();
        for (int number : seats) {
            yard.addMachine(0, 0, number);
        }
        return yard;
    }

    private static void logInUsers(TerminalYard yard, int first, int last) {
        for (int user = first; user <= last; user++) {
            yard.logIn(user, 0);
        }
    }

    /** One machine up, one draining with a session, one in repair. */
    private static TerminalYard threeWays() {
        TerminalYard yard = seats(2, 2, 2);
        logInUsers(yard, 0, 1);
        yard.drain(1);
        yard.drain(2);
        return yard;
    }

    private static void newYard() {
        doc.says(1, "Creates a yard without machines, at the time 0.");
        check.due(new TerminalYard().time(), 0);
        doc.throwsIndex(TerminalYard::new, y -> y.machine(0));
        for (int pool = 0; pool <= 2; pool++) {
            int asked = pool;
            check.due(new TerminalYard().free(pool), 0);
            doc.throwsNoSuchElement(TerminalYard::new, y -> y.next(asked));
        }
        check.due(new TerminalYard().addMachine(0, 0, 1), 0);
    }

    private static void addsMachineThatIsUp() {
        doc.says(2, "Adds a machine, which is up.");
        TerminalYard yard = seats(1, 2);
        yard.drain(0);
        yard.addMachine(0, 0, 3);
        check.letter(yard.machine(2), 'u');
        check.letter(yard.machine(1), 'u');
        check.letter(yard.machine(0), 'm');
        check.due(yard.free(0), 2 + 3);
    }

    private static void addMachinePool() {
        doc.says(2, "`pool`: its pool, 0 to 2");
        for (int pool = 0; pool <= 2; pool++) {
            TerminalYard yard = new TerminalYard();
            check.due(yard.addMachine(pool, 1, 3), 0);
            for (int other = 0; other <= 2; other++) {
                check.due(yard.free(other), other == pool ? 3 : 0);
            }
        }
        for (int wrong : Sentences.outside(0, 2)) {
            doc.throwsArgument(TerminalYard::new, y -> y.addMachine(wrong, 1, 3));
        }
    }

    private static void addMachineRoom() {
        doc.says(2, "`room`: its room, 0 to 2");
        TerminalYard yard = rich();
        for (int room = 0; room <= 2; room++) {
            check.due(yard.addMachine(2 - room, room, 1), room);
            yard.logIn(room, 2 - room);
        }
        for (int room = 0; room <= 2; room++) {
            check.due(yard.print(room, 10 + room), 10 + room);
        }
        for (int room = 0; room <= 2; room++) {
            check.due(yard.print(room, 1), 11 + room);
        }
        for (int wrong : Sentences.outside(0, 2)) {
            doc.throwsArgument(TerminalYard::new, y -> y.addMachine(1, wrong, 3));
        }
    }

    private static void addMachineSeats() {
        doc.says(2, "`seats`: the number of its seats, 1 to 4");
        for (int seats = 1; seats <= 4; seats++) {
            TerminalYard yard = seats(seats);
            check.due(yard.free(0), seats);
            logInUsers(yard, 0, seats - 1);
            check.due(yard.free(0), 0);
            check.refused(NoSuchElementException.class, () -> yard.logIn(9, 0));
        }
        for (int wrong : Sentences.outside(1, 4)) {
            doc.throwsArgument(TerminalYard::new, y -> y.addMachine(1, 1, wrong));
        }
    }

    private static void addMachineNumber() {
        doc.says(2, "Returns the number of the machine.");
        TerminalYard yard = new TerminalYard();
        for (int number = 0; number < 6; number++) {
            // a refused call takes no number
            check.refused(IllegalArgumentException.class, () -> yard.addMachine(0, 0, 0));
            check.due(yard.addMachine((number + 1) % 3, number % 3, 1), number);
            check.letter(yard.machine(number), 'u');
        }
    }

    private static void addMachineOutOfRange() {
        doc.says(2, "Throws `IllegalArgumentException` if a number is out of range");
        doc.throwsArgument(MachinesEdgesTest::threeWays, y -> y.addMachine(-1, 0, 1));
        doc.throwsArgument(MachinesEdgesTest::threeWays, y -> y.addMachine(3, 0, 1));
        doc.throwsArgument(MachinesEdgesTest::threeWays, y -> y.addMachine(0, -1, 1));
        doc.throwsArgument(MachinesEdgesTest::threeWays, y -> y.addMachine(0, 3, 1));
        doc.throwsArgument(MachinesEdgesTest::threeWays, y -> y.addMachine(0, 0, 0));
        doc.throwsArgument(MachinesEdgesTest::threeWays, y -> y.addMachine(0, 0, 5));
        doc.throwsArgument(MachinesEdgesTest::threeWays, y -> y.addMachine(3, 3, 5));
        check.due(threeWays().addMachine(0, 0, 1), 3);
        check.due(threeWays().addMachine(2, 2, 4), 3);
    }

    private static void addMachineSix() {
        doc.says(2, "Throws `IllegalStateException` if there are 6 machines");
        check.due(seats(1, 1, 1, 1, 1).addMachine(2, 2, 4), 5);
        doc.throwsState(() -> seats(1, 1, 1, 1, 1, 1), y -> y.addMachine(2, 2, 4));
        // a machine in repair is still one of them
        doc.throwsState(() -> {
            TerminalYard yard = seats(1, 1, 1, 1, 1, 1);
            for (int machine = 0; machine < 6; machine++) {
                yard.drain(machine);
            }
            return yard;
        }, y -> y.addMachine(0, 0, 1));
    }

    /** A live session in each pool, whose number is that of the pool, all not used for 5 minutes. */
    private static TerminalYard sessionInEachPool() {
        TerminalYard yard = rich();
        for (int pool = 0; pool <= 2; pool++) {
            yard.addMachine(pool, 0, 2);
            yard.logIn(pool, pool);
        }
        yard.pass(5);
        return yard;
    }

    private static void setsLimitsOfLiveSessions() {
        doc.says(3, "Sets the limits of a pool, for sessions that are live, too.");
        TerminalYard yard = sessionInEachPool();
        yard.setLimits(1, 20, 240);
        check.due(yard.endsIn(1), 15);
        yard.setLimits(1, 240, 9);
        check.due(yard.endsIn(1), 4);
        check.due(yard.logIn(7, 1), 3);
        check.due(yard.endsIn(3), 9);
        check.due(yard.pass(3), 0);
        check.due(yard.pass(1), 1);
        check.letter(yard.state(1), 'x');
        yard.setLimits(1, 12, 999);
        check.due(yard.endsIn(3), 8);
        check.due(yard.pass(7), 0);
        check.due(yard.pass(1), 1);
        check.letter(yard.state(3), 'i');
    }

    private static void setsLimitsReachedAlready() {
        doc.says(3, "Sets the limits of a pool, for sessions that are live, too.");
        TerminalYard yard = sessionInEachPool();
        // no session ends before a minute has passed
        yard.setLimits(0, 5, 999);
        yard.setLimits(1, 999, 5);
        yard.setLimits(2, 1, 1);
        for (int session = 0; session <= 2; session++) {
            check.letter(yard.state(session), 'a');
        }
        check.due(yard.free(0), 1);
        check.due(yard.pass(1), 3);
        check.letter(yard.state(0), 'i');
        check.letter(yard.state(1), 'x');
        check.letter(yard.state(2), 'i');
    }

    private static void setLimitsPool() {
        doc.says(3, "`pool`: the pool, 0 to 2");
        for (int pool = 0; pool <= 2; pool++) {
            TerminalYard yard = sessionInEachPool();
            check.due(yard.setLimits(pool, 10, 20), 30);
            for (int other = 0; other <= 2; other++) {
                check.due(yard.endsIn(other), other == pool ? 5 : 25);
            }
        }
        for (int wrong : Sentences.outside(0, 2)) {
            doc.throwsArgument(MachinesEdgesTest::sessionInEachPool, y -> y.setLimits(wrong, 10, 20));
        }
    }

    private static void setLimitsIdle() {
        doc.says(3, "`idle`: the idle limit, 1 to 999");
        TerminalYard least = seats(1);
        check.due(least.setLimits(0, 1, 999), 30);
        least.logIn(0, 0);
        check.due(least.pass(1), 1);
        check.letter(least.state(0), 'i');
        TerminalYard most = seats(1);
        most.setLimits(0, 999, 999);
        most.logIn(0, 0);
        check.due(most.endsIn(0), 999);
        passWithoutUse(most, 998);
        check.letter(most.state(0), 'a');
        check.due(most.pass(1), 1);
        check.letter(most.state(0), 'i');
        for (int wrong : Sentences.outside(1, 999)) {
            doc.throwsArgument(MachinesEdgesTest::sessionInEachPool, y -> y.setLimits(0, wrong, 7));
        }
    }

    private static void setLimitsHard() {
        doc.says(3, "`hard`: the hard limit, 1 to 999");
        TerminalYard least = seats(1);
        check.due(least.setLimits(0, 999, 1), 30);
        least.logIn(0, 0);
        check.due(least.pass(1), 1);
        check.letter(least.state(0), 'x');
        TerminalYard most = seats(1);
        most.setLimits(0, 999, 999);
        most.logIn(0, 0);
        passWithoutUse(most, 998);
        most.use(0);
        check.due(most.endsIn(0), 1);
        check.due(most.pass(1), 1);
        check.letter(most.state(0), 'x');
        for (int wrong : Sentences.outside(1, 999)) {
            doc.throwsArgument(MachinesEdgesTest::sessionInEachPool, y -> y.setLimits(0, 7, wrong));
        }
    }

    private static void passWithoutUse(TerminalYard yard, int minutes) {
        int left = minutes;
        while (left > 0) {
            int now = Math.min(60, left);
            check.due(yard.pass(now), 0);
            left -= now;
        }
    }

    private static void setLimitsIdleBefore() {
        doc.says(3, "Returns the idle limit before.");
        TerminalYard yard = new TerminalYard();
        check.due(yard.setLimits(0, 999, 1), 30);
        check.due(yard.setLimits(0, 1, 999), 999);
        check.due(yard.setLimits(0, 7, 8), 1);
        check.due(yard.setLimits(1, 5, 6), 30);
        check.refused(IllegalArgumentException.class, () -> yard.setLimits(0, 9, 1000));
        check.due(yard.setLimits(0, 7, 8), 7);
        check.due(yard.setLimits(0, 7, 8), 7);
    }

    private static void setLimitsOutOfRange() {
        doc.says(3, "Throws `IllegalArgumentException` if a number is out of range");
        doc.throwsArgument(MachinesEdgesTest::sessionInEachPool, y -> y.setLimits(-1, 9, 9));
        doc.throwsArgument(MachinesEdgesTest::sessionInEachPool, y -> y.setLimits(3, 9, 9));
        doc.throwsArgument(MachinesEdgesTest::sessionInEachPool, y -> y.setLimits(1, 0, 9));
        doc.throwsArgument(MachinesEdgesTest::sessionInEachPool, y -> y.setLimits(1, 1000, 9));
        doc.throwsArgument(MachinesEdgesTest::sessionInEachPool, y -> y.setLimits(1, 9, 0));
        doc.throwsArgument(MachinesEdgesTest::sessionInEachPool, y -> y.setLimits(1, 9, 1000));
        doc.throwsArgument(MachinesEdgesTest::sessionInEachPool, y -> y.setLimits(3, 0, 1000));
    }

    private static void drains() {
        doc.says(4, "Drains a machine.");
        TerminalYard yard = seats(2, 2);
        logInUsers(yard, 0, 0);
        yard.drain(0);
        check.letter(yard.machine(0), 'g');
        check.letter(yard.machine(1), 'u');
        check.letter(yard.state(0), 'a');
        logInUsers(yard, 1, 2);
        check.due(yard.machineOf(1), 1);
        check.due(yard.machineOf(2), 1);
        check.refused(NoSuchElementException.class, () -> yard.logIn(3, 0));
        yard.logOut(0);
        check.letter(yard.machine(0), 'm');
    }

    private static void drainLiveSessions() {
        doc.says(4, "Returns the number of live sessions that it has.");
        for (int live = 0; live <= 4; live++) {
            TerminalYard yard = seats(4);
            logInUsers(yard, 0, live - 1);
            check.due(yard.drain(0), live);
            check.letter(yard.machine(0), live == 0 ? 'm' : 'g');
        }
        // neither those that have ended nor those of another machine
        TerminalYard yard = seats(3, 4);
        logInUsers(yard, 0, 6);
        yard.logOut(0);
        check.due(yard.drain(0), 2);
        check.due(yard.drain(1), 4);
    }

    private static void drainNoSuchMachine() {
        doc.says(4, "Throws `IndexOutOfBoundsException` if there is no such machine");
        doc.throwsIndex(TerminalYard::new, y -> y.drain(0));
        for (int wrong : Sentences.outside(0, 2)) {
            doc.throwsIndex(() -> seats(1, 2, 3), y -> y.drain(wrong));
        }
        check.due(seats(1, 2, 3).drain(0), 0);
        check.due(seats(1, 2, 3).drain(2), 0);
        doc.throwsIndex(() -> seats(1, 1, 1, 1, 1, 1), y -> y.drain(6));
    }

    private static void drainNotUp() {
        doc.says(4, "Throws `IllegalStateException` if it is not up");
        doc.throwsState(MachinesEdgesTest::threeWays, y -> y.drain(1));
        doc.throwsState(MachinesEdgesTest::threeWays, y -> y.drain(2));
        TerminalYard yard = threeWays();
        yard.putUp(1);
        check.due(yard.drain(1), 1);
        yard.putUp(2);
        check.due(yard.drain(2), 0);
    }

    private static void putsUp() {
        doc.says(5, "Lets a machine be up again, whether it is draining or in repair.");
        TerminalYard yard = threeWays();
        yard.putUp(1);
        check.letter(yard.machine(1), 'u');
        check.letter(yard.state(1), 'a');
        check.letter(yard.machine(2), 'm');
        yard.putUp(2);
        check.letter(yard.machine(2), 'u');
        check.due(yard.free(0), 1 + 1 + 2);
        check.due(yard.next(0), 2);
        // up again, it stays so without a session
        yard.logOut(1);
        check.letter(yard.machine(1), 'u');
        check.due(yard.next(0), 1);
    }

    private static void putUpFreeSeats() {
        doc.says(5, "Returns the number of its free seats.");
        for (int live = 0; live <= 4; live++) {
            TerminalYard yard = seats(4);
            logInUsers(yard, 0, live - 1);
            yard.drain(0);
            check.due(yard.putUp(0), 4 - live);
        }
        TerminalYard yard = seats(3, 4);
        logInUsers(yard, 0, 2);
        yard.drain(0);
        yard.logOut(0);
        check.due(yard.putUp(0), 2);
    }

    private static void putUpNoSuchMachine() {
        doc.says(5, "Throws `IndexOutOfBoundsException` if there is no such machine");
        doc.throwsIndex(TerminalYard::new, y -> y.putUp(0));
        for (int wrong : Sentences.outside(0, 2)) {
            doc.throwsIndex(MachinesEdgesTest::threeWays, y -> y.putUp(wrong));
        }
        doc.throwsIndex(() -> seats(1, 1, 1, 1, 1, 1), y -> y.putUp(6));
    }

    private static void putUpIsUp() {
        doc.says(5, "Throws `IllegalStateException` if it is up");
        doc.throwsState(MachinesEdgesTest::threeWays, y -> y.putUp(0));
        doc.throwsState(() -> {
            TerminalYard yard = threeWays();
            yard.putUp(1);
            return yard;
        }, y -> y.putUp(1));
        doc.throwsState(() -> {
            TerminalYard yard = threeWays();
            yard.putUp(2);
            return yard;
        }, y -> y.putUp(2));
    }

    private static void machineHowItIs() {
        doc.says(6, "Returns how a machine is.");
        TerminalYard yard = seats(1, 1);
        check.letter(yard.machine(0), 'u');
        yard.logIn(0, 0);
        check.letter(yard.machine(0), 'u');
        yard.drain(0);
        check.letter(yard.machine(0), 'g');
        check.letter(yard.machine(1), 'u');
        yard.logOut(0);
        check.letter(yard.machine(0), 'm');
        yard.putUp(0);
        check.letter(yard.machine(0), 'u');
    }

    private static void machineLetters() {
        doc.says(6, "Returns 'u' up, 'g' draining, 'm' in repair.");
        TerminalYard yard = threeWays();
        check.letter(yard.machine(0), 'u');
        check.letter(yard.machine(1), 'g');
        check.letter(yard.machine(2), 'm');
    }

    private static void machineNoSuch() {
        doc.says(6, "Throws `IndexOutOfBoundsException` if there is no such machine");
        doc.throwsIndex(TerminalYard::new, y -> y.machine(0));
        for (int wrong : Sentences.outside(0, 2)) {
            doc.throwsIndex(MachinesEdgesTest::threeWays, y -> y.machine(wrong));
        }
        doc.throwsIndex(() -> seats(1, 1, 1, 1, 1, 1), y -> y.machine(6));
        check.letter(seats(1, 1, 1, 1, 1, 1).machine(5), 'u');
    }

    private static final String NEXT = "Returns the machine that a session in a pool would get: "
            + "of those of the pool that are up and have a free seat, "
            + "the one with the fewest live sessions; of several, the one with the lowest number.";

    private static void nextOfThePool() {
        doc.says(7, NEXT);
        TerminalYard yard = rich();
        yard.addMachine(2, 0, 4);
        yard.addMachine(1, 0, 4);
        yard.addMachine(0, 0, 1);
        check.due(yard.next(0), 2);
        check.due(yard.next(1), 1);
        check.due(yard.next(2), 0);
    }

    private static void nextThatIsUp() {
        doc.says(7, NEXT);
        TerminalYard yard = seats(3, 3, 3, 3);
        logInUsers(yard, 0, 6);
        check.due(yard.next(0), 3);
        // with the fewest live sessions, but in repair, and then draining
        yard.logOut(3);
        yard.drain(3);
        check.due(yard.next(0), 0);
        yard.putUp(3);
        logInUsers(yard, 3, 3);
        yard.drain(3);
        check.due(yard.next(0), 0);
        yard.drain(0);
        check.due(yard.next(0), 1);
    }

    private static void nextWithAFreeSeat() {
        doc.says(7, NEXT);
        TerminalYard yard = seats(1, 4);
        logInUsers(yard, 0, 2);
        // the machine 0 has fewer live sessions, but it is full
        check.due(yard.next(0), 1);
        logInUsers(yard, 3, 3);
        check.due(yard.next(0), 1);
        yard.logOut(0);
        check.due(yard.next(0), 0);
    }

    private static void nextFewestLiveSessions() {
        doc.says(7, NEXT);
        TerminalYard yard = seats(4, 2, 3);
        logInUsers(yard, 0, 0);
        // the machine 0 has more free seats than the machine 1, and a lower number
        check.due(yard.next(0), 1);
        logInUsers(yard, 1, 1);
        check.due(yard.next(0), 2);
        logInUsers(yard, 2, 2);
        yard.logOut(2);
        yard.logOut(1);
        check.due(yard.next(0), 1);
    }

    private static void nextLowestNumber() {
        doc.says(7, NEXT);
        TerminalYard yard = seats(1, 4, 2);
        check.due(yard.next(0), 0);
        logInUsers(yard, 0, 0);
        check.due(yard.next(0), 1);
        logInUsers(yard, 1, 2);
        check.due(yard.next(0), 1);
    }

    private static void nextIsWhatASessionGets() {
        doc.says(7, NEXT);
        TerminalYard yard = seats(3, 1, 2, 2);
        for (int user = 0; user < 8; user++) {
            int due = yard.next(0);
            check.due(yard.next(0), due);
            check.due(yard.machineOf(yard.logIn(user, 0)), due);
        }
        check.due(yard.free(0), 0);
    }

    private static void nextPool() {
        doc.says(7, "`pool`: the pool, 0 to 2");
        TerminalYard yard = new TerminalYard();
        for (int pool = 0; pool <= 2; pool++) {
            yard.addMachine(pool, 0, 1);
            check.due(yard.next(pool), pool);
        }
    }

    private static void nextNumber() {
        doc.says(7, "Returns the number of the machine.");
        TerminalYard yard = seats(1, 1, 1, 1, 1, 1);
        for (int number = 0; number < 6; number++) {
            check.due(yard.next(0), number);
            yard.drain(number);
        }
    }

    private static void nextNoSuchPool() {
        doc.says(7, "Throws `IllegalArgumentException` if there is no such pool");
        for (int wrong : Sentences.outside(0, 2)) {
            doc.throwsArgument(TerminalYard::new, y -> y.next(wrong));
            doc.throwsArgument(MachinesEdgesTest::sessionInEachPool, y -> y.next(wrong));
        }
    }

    private static void nextNone() {
        doc.says(7, "Throws `NoSuchElementException` if there is none");
        doc.throwsNoSuchElement(TerminalYard::new, y -> y.next(0));
        // machines of other pools only
        doc.throwsNoSuchElement(() -> seats(4), y -> y.next(1));
        doc.throwsNoSuchElement(() -> seats(4), y -> y.next(2));
        // without a free seat
        doc.throwsNoSuchElement(() -> {
            TerminalYard yard = seats(1, 2);
            logInUsers(yard, 0, 2);
            return yard;
        }, y -> y.next(0));
        // draining, and in repair
        doc.throwsNoSuchElement(() -> {
            TerminalYard yard = threeWays();
            yard.drain(0);
            return yard;
        }, y -> y.next(0));
    }

    private static void freeOfThoseThatAreUp() {
        doc.says(8, "Returns the number of free seats of all machines of a pool that are up.");
        TerminalYard yard = threeWays();
        yard.addMachine(1, 0, 4);
        check.due(yard.free(0), 1);
        yard.putUp(1);
        check.due(yard.free(0), 1 + 1);
        yard.putUp(2);
        check.due(yard.free(0), 1 + 1 + 2);
        yard.logOut(0);
        check.due(yard.free(0), 2 + 1 + 2);
        yard.drain(0);
        check.due(yard.free(0), 1 + 2);
    }

    private static void freePool() {
        doc.says(8, "`pool`: the pool, 0 to 2");
        TerminalYard yard = new TerminalYard();
        for (int pool = 0; pool <= 2; pool++) {
            yard.addMachine(pool, 0, pool + 2);
            check.due(yard.free(pool), pool + 2);
        }
    }

    private static void freeNumber() {
        doc.says(8, "Returns the number of seats.");
        check.due(new TerminalYard().free(0), 0);
        TerminalYard yard = seats(4, 4, 4, 4, 4, 4);
        check.due(yard.free(0), 24);
        for (int user = 0; user < 10; user++) {
            yard.logIn(user, 0);
            check.due(yard.free(0), 23 - user);
        }
        TerminalYard full = seats(1);
        logInUsers(full, 0, 0);
        check.due(full.free(0), 0);
    }

    private static void freeNoSuchPool() {
        doc.says(8, "Throws `IllegalArgumentException` if there is no such pool");
        for (int wrong : Sentences.outside(0, 2)) {
            doc.throwsArgument(MachinesEdgesTest::sessionInEachPool, y -> y.free(wrong));
        }
    }
}
