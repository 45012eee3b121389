import java.util.NoSuchElementException;

/** Promises 15 to 25: sessions. */
final class SessionsTest {

    private static final Class<IllegalArgumentException> ARGUMENT = IllegalArgumentException.class;
    private static final Class<IllegalStateException> STATE = IllegalStateException.class;
    private static final Class<IndexOutOfBoundsException> INDEX = IndexOutOfBoundsException.class;
    private static final Class<NoSuchElementException> NONE = NoSuchElementException.class;
    private static final Class<UnsupportedOperationException> SHORT =
            UnsupportedOperationException.class;

    private static final int[] WRONG_USERS = {-1, 10, Integer.MIN_VALUE, Integer.MAX_VALUE};
    private static final int[] WRONG_DEPARTMENTS = {-1, 4, Integer.MIN_VALUE, Integer.MAX_VALUE};

    private static final Check check = new Check();

    public static void main(String[] args) {
        promise15LogIn();
        promise15OneLiveSessionAnOwner();
        promise15FortySessions();
        promise15Refused();
        promise16LogOut();
        promise17Use();
        promise18TakeOver();
        promise18TakeOverUsesTheSession();
        promise18Refused();
        promise19HandBack();
        promise19Refused();
        promise20Print();
        promise20PrintUsesTheSession();
        promise20DepartmentOfTheUserPays();
        promise20Refused();
        promise21State();
        promise22MachineOf();
        promise23UserOf();
        promise24Charged();
        promise25EndsIn();
        promise25EndsInComesTrue();
        noSuchSession();
        check.close();
    }

    /** Two machines with 4 and 2 seats in the pool 0, 5000 minutes in the department 0. */
    private static TerminalYard yard() {
        TerminalYard yard = new TerminalYard();
        yard.addMachine(0, 1, 4);
        yard.addMachine(0, 2, 2);
        yard.buy(0, 5000);
        return yard;
    }

    private static void promise15LogIn() {
        TerminalYard yard = yard();
        yard.addMachine(1, 0, 1);
        yard.pass(10);
        check.due(yard.logIn(0, 0), 0);
        check.due(yard.logIn(9, 1), 1);
        check.due(yard.logIn(4, 0), 2);
        check.due(yard.machineOf(0), 0);
        check.due(yard.machineOf(1), 2);
        check.due(yard.machineOf(2), 1);
        check.due(yard.userOf(1), 9);
        check.letter(yard.state(1), 'a');
        check.due(yard.charged(0, 0), 0);
        check.due(yard.minutes(0), 5000);
        check.due(yard.endsIn(0), 30);
        check.due(yard.use(0), 0);
        check.due(yard.free(0), 4);
    }

    private static void promise15OneLiveSessionAnOwner() {
        TerminalYard yard = yard();
        yard.logIn(0, 0);
        check.refused(STATE, () -> yard.logIn(0, 0));
        yard.takeOver(0, 1);
        check.refused(STATE, () -> yard.logIn(0, 0));
        // the user of a session that another one owns may own one, too
        check.due(yard.logIn(1, 0), 1);
        check.refused(STATE, () -> yard.logIn(1, 0));
        yard.logOut(0);
        check.due(yard.logIn(0, 0), 2);
        yard.pass(30);
        check.letter(yard.state(2), 'i');
        check.due(yard.logIn(0, 0), 3);
    }

    private static void promise15FortySessions() {
        TerminalYard yard = yard();
        for (int session = 0; session < 40; session++) {
            check.due(yard.logIn(session % 10, 0), session);
            yard.logOut(session);
        }
        check.refused(STATE, () -> yard.logIn(0, 0));
        check.refused(ARGUMENT, () -> yard.logIn(0, 3));
        check.refused(STATE, () -> yard.logIn(0, 2));
        check.letter(yard.state(39), 'l');
        check.refused(INDEX, () -> yard.state(40));
        yard.assign(0, 1);
        check.refused(STATE, () -> yard.logIn(0, 0));
    }

    private static void promise15Refused() {
        TerminalYard yard = new TerminalYard();
        for (int wrong : WRONG_USERS) {
            check.refused(ARGUMENT, () -> yard.logIn(wrong, 0));
        }
        int[] wrongPools = {-1, 3, Integer.MIN_VALUE, Integer.MAX_VALUE};
        for (int wrong : wrongPools) {
            check.refused(ARGUMENT, () -> yard.logIn(0, wrong));
        }
        check.refused(SHORT, () -> yard.logIn(0, 0));
        yard.buy(0, 1);
        check.refused(NONE, () -> yard.logIn(0, 0));
        yard.addMachine(1, 0, 1);
        check.refused(NONE, () -> yard.logIn(0, 0));
        yard.addMachine(0, 0, 1);
        yard.drain(1);
        check.refused(NONE, () -> yard.logIn(0, 0));
        yard.putUp(1);
        check.due(yard.logIn(0, 0), 0);
        check.refused(NONE, () -> yard.logIn(1, 0));
        yard.assign(1, 1);
        check.refused(SHORT, () -> yard.logIn(1, 0));
        yard.buy(1, 1);
        check.due(yard.logIn(1, 1), 1);
        // an owner without a minute, and with no machine left, still owns a live session first
        yard.assign(0, 3);
        check.refused(STATE, () -> yard.logIn(0, 2));
    }

    private static void promise16LogOut() {
        TerminalYard yard = yard();
        yard.buy(1, 100);
        yard.assign(1, 1);
        yard.logIn(0, 0);
        yard.logIn(2, 0);
        yard.pass(3);
        yard.print(0, 5);
        yard.takeOver(0, 1);
        yard.pass(4);
        check.due(yard.free(0), 4);
        check.due(yard.logOut(0), 3 + 10 + 4);
        check.letter(yard.state(0), 'l');
        check.letter(yard.state(1), 'a');
        check.due(yard.free(0), 5);
        check.due(yard.pass(1), 0);
        check.due(yard.charged(0, 1), 4);
        check.refused(STATE, () -> yard.logOut(0));
        check.due(yard.free(0), 5);
        check.due(yard.logOut(1), 8);
        yard.logIn(3, 0);
        check.due(yard.logOut(2), 0);
        yard.logIn(4, 0);
        yard.pass(30);
        check.letter(yard.state(3), 'i');
        check.refused(STATE, () -> yard.logOut(3));
        check.letter(yard.state(3), 'i');
    }

    private static void promise17Use() {
        TerminalYard yard = yard();
        yard.pass(5);
        yard.logIn(0, 0);
        yard.logIn(1, 0);
        check.due(yard.use(0), 0);
        yard.pass(7);
        check.due(yard.use(0), 7);
        check.due(yard.use(0), 0);
        yard.pass(29);
        check.due(yard.use(0), 29);
        check.letter(yard.state(1), 'i');
        check.refused(STATE, () -> yard.use(1));
        yard.pass(29);
        check.letter(yard.state(0), 'a');
        yard.pass(1);
        check.letter(yard.state(0), 'i');
        check.refused(STATE, () -> yard.use(0));
    }

    private static void promise18TakeOver() {
        TerminalYard yard = yard();
        yard.buy(1, 50);
        yard.assign(3, 1);
        yard.logIn(0, 0);
        yard.pass(2);
        check.due(yard.takeOver(0, 3), 0);
        check.due(yard.userOf(0), 3);
        check.letter(yard.state(0), 't');
        yard.pass(5);
        check.due(yard.charged(0, 0), 2);
        check.due(yard.charged(0, 1), 5);
        check.due(yard.takeOver(0, 9), 3);
        check.letter(yard.state(0), 't');
        check.due(yard.takeOver(0, 0), 9);
        check.letter(yard.state(0), 'a');
        check.due(yard.userOf(0), 0);
        // a user may have several sessions, the own one among them
        yard.logIn(1, 0);
        check.due(yard.takeOver(0, 1), 0);
        check.letter(yard.state(0), 't');
        check.letter(yard.state(1), 'a');
        check.due(yard.machineOf(0), 0);
    }

    private static void promise18TakeOverUsesTheSession() {
        TerminalYard yard = yard();
        yard.logIn(0, 0);
        yard.pass(20);
        yard.takeOver(0, 1);
        check.due(yard.endsIn(0), 30);
        yard.pass(4);
        check.due(yard.use(0), 4);
        yard.pass(4);
        yard.takeOver(0, 0);
        check.due(yard.use(0), 0);
    }

    private static void promise18Refused() {
        TerminalYard yard = yard();
        check.refused(INDEX, () -> yard.takeOver(0, 10));
        yard.logIn(0, 0);
        yard.pass(3);
        for (int wrong : WRONG_USERS) {
            check.refused(ARGUMENT, () -> yard.takeOver(0, wrong));
        }
        check.refused(ARGUMENT, () -> yard.takeOver(0, 0));
        yard.assign(2, 1);
        check.refused(SHORT, () -> yard.takeOver(0, 2));
        check.due(yard.use(0), 3);
        yard.buy(1, 1);
        check.due(yard.takeOver(0, 2), 0);
        check.refused(ARGUMENT, () -> yard.takeOver(0, 2));
        check.due(yard.pass(1), 0);
        check.refused(ARGUMENT, () -> yard.takeOver(0, 2));
        yard.assign(0, 1);
        check.refused(SHORT, () -> yard.takeOver(0, 0));
        yard.logOut(0);
        check.refused(ARGUMENT, () -> yard.takeOver(0, 2));
        check.refused(ARGUMENT, () -> yard.takeOver(0, 10));
        check.refused(STATE, () -> yard.takeOver(0, 0));
        check.refused(STATE, () -> yard.takeOver(0, 1));
        check.due(yard.userOf(0), 2);
    }

    private static void promise19HandBack() {
        TerminalYard yard = yard();
        yard.buy(1, 20);
        yard.assign(3, 1);
        yard.logIn(0, 0);
        yard.takeOver(0, 3);
        yard.pass(6);
        check.due(yard.handBack(0), 3);
        check.due(yard.userOf(0), 0);
        check.letter(yard.state(0), 'a');
        check.due(yard.use(0), 0);
        check.due(yard.endsIn(0), 30);
        yard.pass(2);
        check.due(yard.charged(0, 1), 6);
        check.due(yard.charged(0, 0), 2);
        yard.takeOver(0, 3);
        yard.takeOver(0, 4);
        check.due(yard.handBack(0), 4);
        // unlike a take-over it asks for no minutes of the owner's department
        yard.takeOver(0, 3);
        yard.assign(0, 2);
        check.due(yard.handBack(0), 3);
        check.due(yard.pass(1), 1);
        check.letter(yard.state(0), 'o');
    }

    private static void promise19Refused() {
        TerminalYard yard = yard();
        check.refused(INDEX, () -> yard.handBack(0));
        yard.logIn(0, 0);
        yard.pass(4);
        check.refused(STATE, () -> yard.handBack(0));
        check.due(yard.use(0), 4);
        yard.takeOver(0, 1);
        yard.handBack(0);
        check.refused(STATE, () -> yard.handBack(0));
        yard.takeOver(0, 1);
        yard.logOut(0);
        check.refused(STATE, () -> yard.handBack(0));
        check.due(yard.userOf(0), 1);
    }

    private static void promise20Print() {
        TerminalYard yard = yard();
        yard.addMachine(1, 1, 1);
        yard.buy(1, 10);
        yard.assign(5, 1);
        yard.logIn(0, 0);
        yard.logIn(1, 0);
        yard.logIn(2, 1);
        check.due(yard.print(0, 1), 1);
        check.due(yard.print(0, 99), 100);
        check.due(yard.charged(0, 0), 200);
        check.due(yard.minutes(0), 4800);
        check.due(yard.print(1, 7), 7);
        // machines of other pools may stand in the same room
        check.due(yard.print(2, 3), 103);
        yard.takeOver(1, 5);
        check.due(yard.print(1, 5), 12);
        check.due(yard.charged(1, 1), 10);
        check.due(yard.charged(1, 0), 14);
        check.due(yard.minutes(1), 0);
        yard.logOut(0);
        check.due(yard.print(2, 1), 104);
    }

    private static void promise20PrintUsesTheSession() {
        TerminalYard yard = yard();
        yard.logIn(0, 0);
        yard.pass(9);
        yard.print(0, 1);
        check.due(yard.endsIn(0), 30);
        check.due(yard.use(0), 0);
        yard.pass(3);
        check.refused(ARGUMENT, () -> yard.print(0, 100));
        check.due(yard.use(0), 3);
    }

    private static void promise20DepartmentOfTheUserPays() {
        TerminalYard yard = yard();
        yard.buy(1, 3);
        yard.assign(1, 1);
        yard.logIn(0, 0);
        yard.logIn(1, 0);
        yard.takeOver(0, 1);
        yard.takeOver(1, 0);
        check.refused(SHORT, () -> yard.print(0, 2));
        check.due(yard.print(0, 1), 1);
        check.due(yard.print(1, 2), 2);
        check.due(yard.minutes(1), 1);
        check.due(yard.minutes(0), 4996);
    }

    private static void promise20Refused() {
        TerminalYard yard = new TerminalYard();
        yard.addMachine(0, 0, 2);
        yard.buy(0, 9);
        check.refused(INDEX, () -> yard.print(0, 0));
        yard.logIn(0, 0);
        int[] wrong = {0, -1, 100, Integer.MIN_VALUE, Integer.MAX_VALUE, 1 << 30};
        for (int pages : wrong) {
            check.refused(ARGUMENT, () -> yard.print(0, pages));
        }
        check.refused(SHORT, () -> yard.print(0, 5));
        check.due(yard.minutes(0), 9);
        check.due(yard.charged(0, 0), 0);
        check.due(yard.print(0, 4), 4);
        check.refused(SHORT, () -> yard.print(0, 1));
        yard.buy(0, 1);
        check.due(yard.print(0, 1), 5);
        check.letter(yard.state(0), 'a');
        yard.logOut(0);
        check.refused(STATE, () -> yard.print(0, 1));
        check.refused(ARGUMENT, () -> yard.print(0, 0));
    }

    private static void promise21State() {
        TerminalYard yard = yard();
        yard.buy(1, 3);
        yard.assign(1, 1);
        yard.setLimits(0, 6, 8);
        yard.logIn(0, 0);
        yard.logIn(1, 0);
        yard.logIn(2, 0);
        yard.logIn(3, 0);
        check.letter(yard.state(0), 'a');
        yard.takeOver(0, 4);
        check.letter(yard.state(0), 't');
        yard.takeOver(3, 4);
        yard.logOut(3);
        check.letter(yard.state(3), 'l');
        yard.pass(3);
        check.letter(yard.state(1), 'a');
        yard.pass(1);
        check.letter(yard.state(1), 'o');
        yard.use(0);
        yard.pass(2);
        check.letter(yard.state(2), 'i');
        check.letter(yard.state(0), 't');
        yard.pass(2);
        check.letter(yard.state(0), 'x');
    }

    private static void promise22MachineOf() {
        TerminalYard yard = yard();
        yard.logIn(0, 0);
        yard.logIn(1, 0);
        check.due(yard.machineOf(0), 0);
        check.due(yard.machineOf(1), 1);
        yard.drain(1);
        yard.logOut(1);
        check.due(yard.machineOf(1), 1);
        yard.pass(30);
        check.due(yard.machineOf(0), 0);
        yard.takeOver(yard.logIn(1, 0), 5);
        check.due(yard.machineOf(2), 0);
    }

    private static void promise23UserOf() {
        TerminalYard yard = yard();
        yard.logIn(7, 0);
        yard.logIn(8, 0);
        yard.logIn(9, 0);
        check.due(yard.userOf(0), 7);
        yard.takeOver(0, 2);
        yard.takeOver(1, 2);
        yard.takeOver(2, 7);
        yard.handBack(2);
        check.due(yard.userOf(0), 2);
        check.due(yard.userOf(1), 2);
        check.due(yard.userOf(2), 9);
        yard.logOut(0);
        check.due(yard.userOf(0), 2);
        yard.pass(30);
        check.letter(yard.state(1), 'i');
        check.due(yard.userOf(1), 2);
        check.due(yard.userOf(2), 9);
    }

    private static void promise24Charged() {
        TerminalYard yard = yard();
        yard.buy(2, 30);
        yard.assign(6, 2);
        yard.logIn(0, 0);
        yard.logIn(6, 0);
        yard.pass(3);
        yard.takeOver(0, 6);
        yard.print(0, 2);
        yard.pass(1);
        int[] due = {3, 0, 5, 0};
        int[] dueOther = {0, 0, 4, 0};
        for (int department = 0; department < 4; department++) {
            check.due(yard.charged(0, department), due[department]);
            check.due(yard.charged(1, department), dueOther[department]);
        }
        yard.logOut(0);
        yard.assign(6, 0);
        check.due(yard.charged(0, 2), 5);
        for (int wrong : WRONG_DEPARTMENTS) {
            check.refused(ARGUMENT, () -> yard.charged(0, wrong));
            check.refused(INDEX, () -> yard.charged(2, wrong));
        }
    }

    private static void promise25EndsIn() {
        TerminalYard yard = yard();
        yard.addMachine(1, 0, 1);
        yard.setLimits(0, 10, 25);
        yard.logIn(0, 0);
        yard.logIn(1, 1);
        check.due(yard.endsIn(0), 10);
        check.due(yard.endsIn(1), 30);
        yard.pass(9);
        check.due(yard.endsIn(0), 1);
        yard.use(0);
        check.due(yard.endsIn(0), 10);
        yard.pass(9);
        yard.use(0);
        check.due(yard.endsIn(0), 7);
        yard.setLimits(0, 1, 999);
        check.due(yard.endsIn(0), 1);
        yard.pass(1);
        check.refused(STATE, () -> yard.endsIn(0));
        // limits below what has passed already: still a minute has to pass
        yard.setLimits(1, 1, 1);
        check.due(yard.endsIn(1), 1);
        yard.setLimits(1, 999, 999);
        check.due(yard.endsIn(1), 999 - 19);
        yard.setLimits(1, 999, 19);
        check.due(yard.endsIn(1), 1);
        yard.setLimits(1, 18, 999);
        check.due(yard.endsIn(1), 1);
        yard.setLimits(1, 22, 999);
        check.due(yard.endsIn(1), 3);
        // the minutes that its department has left do not count
        yard.assign(1, 3);
        check.due(yard.endsIn(1), 3);
    }

    private static void promise25EndsInComesTrue() {
        for (int idle = 1; idle < 6; idle++) {
            for (int hard = 1; hard < 6; hard++) {
                TerminalYard yard = yard();
                yard.setLimits(0, idle, hard);
                yard.logIn(0, 0);
                int due = yard.endsIn(0);
                check.due(due, Math.min(idle, hard));
                if (due > 1) {
                    check.due(yard.pass(due - 1), 0);
                }
                check.due(yard.endsIn(0), 1);
                check.due(yard.pass(1), 1);
                check.letter(yard.state(0), idle <= hard ? 'i' : 'x');
            }
        }
    }

    private static void noSuchSession() {
        TerminalYard yard = yard();
        int[] wrong = {-1, 1, 40, Integer.MIN_VALUE, Integer.MAX_VALUE};
        check.refused(INDEX, () -> yard.state(0));
        yard.logIn(0, 0);
        for (int session : wrong) {
            check.refused(INDEX, () -> yard.logOut(session));
            check.refused(INDEX, () -> yard.use(session));
            check.refused(INDEX, () -> yard.takeOver(session, 10));
            check.refused(INDEX, () -> yard.handBack(session));
            check.refused(INDEX, () -> yard.print(session, 0));
            check.refused(INDEX, () -> yard.state(session));
            check.refused(INDEX, () -> yard.machineOf(session));
            check.refused(INDEX, () -> yard.userOf(session));
            check.refused(INDEX, () -> yard.charged(session, 4));
            check.refused(INDEX, () -> yard.endsIn(session));
        }
    }
}
