import java.util.NoSuchElementException;

/** Promises 1 to 8: a new object, machines and pools. */
final class MachinesTest {

    private static final Class<IllegalArgumentException> ARGUMENT = IllegalArgumentException.class;
    private static final Class<IllegalStateException> STATE = IllegalStateException.class;
    private static final Class<IndexOutOfBoundsException> INDEX = IndexOutOfBoundsException.class;
    private static final Class<NoSuchElementException> NONE = NoSuchElementException.class;

    private static final Check check = new Check();

    public static void main(String[] args) {
        promise1NewYard();
        promise1NewYardsShareNothing();
        promise2AddMachine();
        promise2WrongNumbers();
        promise2SixMachines();
        promise3SetLimits();
        promise3LimitsOfLiveSessions();
        promise3WrongNumbers();
        promise4Drain();
        promise4RepairAsSoonAsEmpty();
        promise4Refused();
        promise5PutUp();
        promise5Refused();
        promise6Machine();
        promise7Next();
        promise7NextPassesOver();
        promise7Refused();
        promise8Free();
        check.close();
    }

    private static TerminalYard yardWithMinutes() {
        TerminalYard yard = new TerminalYard();
        yard.buy(0, 5000);
        return yard;
    }

    private static void promise1NewYard() {
        TerminalYard yard = new TerminalYard();
        check.due(yard.time(), 0);
        check.refused(INDEX, () -> yard.machine(0));
        check.refused(INDEX, () -> yard.state(0));
        check.refused(ArithmeticException.class, () -> yard.pageShare());
        check.refused(ArithmeticException.class, () -> yard.meanCharge());
        for (int pool = 0; pool < 3; pool++) {
            int asked = pool;
            check.due(yard.free(pool), 0);
            check.refused(NONE, () -> yard.next(asked));
            check.due(yard.setLimits(pool, 7, 8), 30);
        }
        for (int department = 0; department < 4; department++) {
            check.due(yard.minutes(department), 0);
            check.due(yard.minutesBySessions(department), 0);
        }
        for (int user = 0; user < 10; user++) {
            check.due(yard.assign(user, 3), 0);
        }
    }

    private static void promise1NewYardsShareNothing() {
        TerminalYard used = yardWithMinutes();
        used.addMachine(0, 0, 1);
        used.logIn(0, 0);
        used.pass(3);
        used.assign(1, 1);
        TerminalYard yard = new TerminalYard();
        check.due(yard.time(), 0);
        check.due(yard.minutes(0), 0);
        check.due(yard.addMachine(0, 0, 2), 0);
        check.due(yard.assign(1, 2), 0);
        check.refused(INDEX, () -> yard.state(0));
    }

    private static void promise2AddMachine() {
        TerminalYard yard = yardWithMinutes();
        for (int number = 0; number < 6; number++) {
            check.due(yard.addMachine(number % 3, 2 - number % 3, 1 + number % 4), number);
            check.letter(yard.machine(number), 'u');
        }
        check.due(yard.free(0), 1 + 4);
        check.due(yard.free(1), 2 + 1);
        check.due(yard.free(2), 3 + 2);
        check.due(yard.logIn(0, 2), 0);
        check.due(yard.machineOf(0), 2);
        check.due(yard.logIn(1, 0), 1);
        check.due(yard.machineOf(1), 0);
        check.due(yard.print(0, 3), 3);
        check.due(yard.print(1, 4), 4);
    }

    private static void promise2WrongNumbers() {
        TerminalYard yard = new TerminalYard();
        int[][] wrong = {
            {-1, 0, 1}, {3, 0, 1}, {0, -1, 1}, {0, 3, 1}, {0, 0, 0}, {0, 0, 5}, {0, 0, -1},
            {Integer.MIN_VALUE, 0, 1}, {Integer.MAX_VALUE, 0, 1},
            {0, Integer.MIN_VALUE, 1}, {0, Integer.MAX_VALUE, 1},
            {0, 0, Integer.MIN_VALUE}, {0, 0, Integer.MAX_VALUE},
        };
        for (int[] call : wrong) {
            check.refused(ARGUMENT, () -> yard.addMachine(call[0], call[1], call[2]));
        }
        check.due(yard.free(0), 0);
        check.due(yard.addMachine(2, 2, 4), 0);
        check.due(yard.addMachine(0, 0, 1), 1);
    }

    private static void promise2SixMachines() {
        TerminalYard yard = new TerminalYard();
        for (int number = 0; number < 6; number++) {
            yard.addMachine(0, 0, 1);
        }
        check.refused(STATE, () -> yard.addMachine(0, 0, 1));
        check.refused(ARGUMENT, () -> yard.addMachine(3, 0, 1));
        check.refused(ARGUMENT, () -> yard.addMachine(0, 3, 1));
        check.refused(ARGUMENT, () -> yard.addMachine(0, 0, 5));
        check.due(yard.free(0), 6);
        check.refused(INDEX, () -> yard.machine(6));
    }

    private static void promise3SetLimits() {
        TerminalYard yard = new TerminalYard();
        check.due(yard.setLimits(0, 10, 20), 30);
        check.due(yard.setLimits(0, 999, 1), 10);
        check.due(yard.setLimits(0, 1, 999), 999);
        check.due(yard.setLimits(0, 5, 5), 1);
        check.due(yard.setLimits(1, 40, 4), 30);
        check.due(yard.setLimits(2, 50, 4), 30);
        check.due(yard.setLimits(1, 40, 4), 40);
    }

    private static void promise3LimitsOfLiveSessions() {
        TerminalYard yard = yardWithMinutes();
        yard.addMachine(0, 0, 2);
        yard.addMachine(1, 0, 1);
        yard.logIn(0, 0);
        yard.logIn(1, 1);
        check.due(yard.endsIn(0), 30);
        yard.setLimits(0, 12, 240);
        check.due(yard.endsIn(0), 12);
        check.due(yard.endsIn(1), 30);
        yard.setLimits(0, 240, 9);
        check.due(yard.endsIn(0), 9);
        check.due(yard.pass(8), 0);
        yard.setLimits(0, 3, 240);
        check.letter(yard.state(0), 'a');
        check.due(yard.pass(1), 1);
        check.letter(yard.state(0), 'i');
        check.letter(yard.state(1), 'a');
        yard.setLimits(1, 999, 5);
        check.letter(yard.state(1), 'a');
        check.due(yard.pass(1), 1);
        check.letter(yard.state(1), 'x');
    }

    private static void promise3WrongNumbers() {
        TerminalYard yard = new TerminalYard();
        int[][] wrong = {
            {-1, 5, 5}, {3, 5, 5}, {0, 0, 5}, {0, 1000, 5}, {0, 5, 0}, {0, 5, 1000}, {0, -1, 5},
            {0, 5, -1}, {Integer.MAX_VALUE, 5, 5}, {Integer.MIN_VALUE, 5, 5},
            {0, Integer.MAX_VALUE, 5}, {0, 5, Integer.MIN_VALUE},
        };
        for (int[] call : wrong) {
            check.refused(ARGUMENT, () -> yard.setLimits(call[0], call[1], call[2]));
        }
        check.due(yard.setLimits(0, 1, 1), 30);
    }

    private static void promise4Drain() {
        TerminalYard yard = yardWithMinutes();
        yard.addMachine(0, 0, 2);
        yard.addMachine(0, 0, 3);
        yard.addMachine(0, 0, 4);
        yard.logIn(0, 0);
        yard.logIn(1, 0);
        yard.logIn(2, 0);
        yard.logIn(3, 0);
        check.due(yard.drain(0), 2);
        check.letter(yard.machine(0), 'g');
        check.due(yard.drain(1), 1);
        check.letter(yard.machine(1), 'g');
        check.letter(yard.machine(2), 'u');
        check.letter(yard.state(0), 'a');
        check.due(yard.logIn(4, 0), 4);
        check.due(yard.machineOf(4), 2);
        yard.logOut(2);
        yard.logOut(4);
        check.due(yard.drain(2), 0);
        check.letter(yard.machine(2), 'm');
        check.refused(NONE, () -> yard.logIn(5, 0));
        check.due(yard.use(0), 0);
        check.due(yard.takeOver(0, 7), 0);
        check.due(yard.print(0, 1), 1);
        check.due(yard.pass(1), 0);
    }

    private static void promise4RepairAsSoonAsEmpty() {
        TerminalYard yard = yardWithMinutes();
        yard.addMachine(0, 0, 2);
        yard.logIn(0, 0);
        yard.pass(1);
        yard.logIn(1, 0);
        yard.drain(0);
        check.letter(yard.machine(0), 'g');
        check.due(yard.pass(29), 1);
        check.letter(yard.machine(0), 'g');
        check.due(yard.pass(1), 1);
        check.letter(yard.machine(0), 'm');
        yard.putUp(0);
        yard.logIn(2, 0);
        yard.drain(0);
        yard.logOut(2);
        check.letter(yard.machine(0), 'm');
        yard.putUp(0);
        yard.assign(3, 1);
        yard.buy(1, 1);
        yard.logIn(3, 0);
        yard.drain(0);
        check.due(yard.pass(1), 0);
        check.due(yard.pass(1), 1);
        check.letter(yard.state(3), 'o');
        check.letter(yard.machine(0), 'm');
    }

    private static void promise4Refused() {
        TerminalYard yard = yardWithMinutes();
        check.refused(INDEX, () -> yard.drain(0));
        yard.addMachine(0, 0, 1);
        check.refused(INDEX, () -> yard.drain(-1));
        check.refused(INDEX, () -> yard.drain(1));
        check.refused(INDEX, () -> yard.drain(Integer.MAX_VALUE));
        check.refused(INDEX, () -> yard.drain(Integer.MIN_VALUE));
        yard.logIn(0, 0);
        yard.drain(0);
        check.refused(STATE, () -> yard.drain(0));
        check.letter(yard.machine(0), 'g');
        yard.logOut(0);
        check.refused(STATE, () -> yard.drain(0));
        check.letter(yard.machine(0), 'm');
    }

    private static void promise5PutUp() {
        TerminalYard yard = yardWithMinutes();
        yard.addMachine(0, 0, 4);
        yard.logIn(0, 0);
        yard.logIn(1, 0);
        yard.logIn(2, 0);
        yard.logOut(1);
        yard.drain(0);
        check.due(yard.putUp(0), 2);
        check.letter(yard.machine(0), 'u');
        check.letter(yard.state(0), 'a');
        check.due(yard.free(0), 2);
        check.due(yard.logIn(1, 0), 3);
        yard.logOut(0);
        yard.logOut(2);
        yard.logOut(3);
        check.letter(yard.machine(0), 'u');
        yard.drain(0);
        check.letter(yard.machine(0), 'm');
        check.due(yard.putUp(0), 4);
        check.letter(yard.machine(0), 'u');
        check.due(yard.next(0), 0);
    }

    private static void promise5Refused() {
        TerminalYard yard = new TerminalYard();
        check.refused(INDEX, () -> yard.putUp(0));
        yard.addMachine(0, 0, 4);
        check.refused(STATE, () -> yard.putUp(0));
        check.refused(INDEX, () -> yard.putUp(1));
        check.refused(INDEX, () -> yard.putUp(-1));
        yard.drain(0);
        yard.putUp(0);
        check.refused(STATE, () -> yard.putUp(0));
        check.letter(yard.machine(0), 'u');
    }

    private static void promise6Machine() {
        TerminalYard yard = yardWithMinutes();
        check.refused(INDEX, () -> yard.machine(0));
        yard.addMachine(0, 0, 1);
        yard.addMachine(0, 0, 1);
        yard.addMachine(0, 0, 1);
        yard.logIn(0, 0);
        yard.drain(0);
        yard.drain(1);
        check.letter(yard.machine(0), 'g');
        check.letter(yard.machine(1), 'm');
        check.letter(yard.machine(2), 'u');
        check.refused(INDEX, () -> yard.machine(3));
        check.refused(INDEX, () -> yard.machine(-1));
        check.refused(INDEX, () -> yard.machine(Integer.MAX_VALUE));
        check.refused(INDEX, () -> yard.machine(Integer.MIN_VALUE));
    }

    private static void promise7Next() {
        TerminalYard yard = yardWithMinutes();
        yard.addMachine(1, 0, 4);
        yard.addMachine(0, 0, 1);
        yard.addMachine(0, 0, 3);
        yard.addMachine(0, 0, 4);
        int[] due = {1, 2, 3, 2, 3, 2, 3, 3};
        for (int user = 0; user < due.length; user++) {
            check.due(yard.next(0), due[user]);
            check.due(yard.next(1), 0);
            yard.logIn(user, 0);
            check.due(yard.machineOf(user), due[user]);
        }
        check.refused(NONE, () -> yard.next(0));
        // the fewest live sessions, not the most free seats
        yard.logOut(0);
        check.due(yard.next(0), 1);
        yard.logIn(0, 0);
        yard.logOut(2);
        yard.logOut(4);
        check.due(yard.next(0), 3);
        yard.logOut(1);
        check.due(yard.next(0), 2);
    }

    private static void promise7NextPassesOver() {
        TerminalYard yard = yardWithMinutes();
        yard.addMachine(0, 0, 4);
        yard.addMachine(0, 0, 4);
        yard.addMachine(0, 0, 4);
        for (int user = 0; user < 4; user++) {
            yard.logIn(user, 0);
        }
        check.due(yard.next(0), 1);
        yard.drain(1);
        check.due(yard.next(0), 2);
        yard.drain(2);
        check.due(yard.next(0), 0);
        yard.drain(0);
        check.refused(NONE, () -> yard.next(0));
        yard.putUp(1);
        check.due(yard.next(0), 1);
    }

    private static void promise7Refused() {
        TerminalYard yard = new TerminalYard();
        check.refused(ARGUMENT, () -> yard.next(-1));
        check.refused(ARGUMENT, () -> yard.next(3));
        check.refused(ARGUMENT, () -> yard.next(Integer.MAX_VALUE));
        check.refused(ARGUMENT, () -> yard.next(Integer.MIN_VALUE));
        check.refused(NONE, () -> yard.next(2));
        yard.addMachine(2, 0, 1);
        check.due(yard.next(2), 0);
        check.refused(NONE, () -> yard.next(0));
    }

    private static void promise8Free() {
        TerminalYard yard = yardWithMinutes();
        yard.addMachine(0, 0, 4);
        yard.addMachine(1, 0, 3);
        yard.addMachine(0, 0, 2);
        check.due(yard.free(0), 6);
        check.due(yard.free(1), 3);
        check.due(yard.free(2), 0);
        yard.logIn(0, 0);
        yard.logIn(1, 0);
        yard.logIn(2, 0);
        check.due(yard.free(0), 3);
        yard.drain(0);
        check.due(yard.free(0), 1);
        yard.logOut(2);
        check.due(yard.free(0), 1);
        yard.logOut(1);
        check.due(yard.free(0), 2);
        yard.logOut(0);
        check.due(yard.free(0), 2);
        yard.putUp(0);
        check.due(yard.free(0), 6);
        check.refused(ARGUMENT, () -> yard.free(-1));
        check.refused(ARGUMENT, () -> yard.free(3));
        check.refused(ARGUMENT, () -> yard.free(Integer.MIN_VALUE));
        check.refused(ARGUMENT, () -> yard.free(Integer.MAX_VALUE));
    }
}
