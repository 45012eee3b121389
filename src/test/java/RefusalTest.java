import java.util.function.Consumer;
import java.util.function.ToDoubleFunction;

/**
 * A call that throws changes nothing: every refused call is made on a yard of its own, and then
 * everything that can be asked or brought to light there is compared with an untouched yard.
 */
final class RefusalTest {

    private static final Check check = new Check();

    public static void main(String[] args) {
        busyYard();
        fullYard();
        check.close();
    }

    /** A yard in the middle of its work, at the time 17. */
    private static TerminalYard busy() {
        TerminalYard yard = new TerminalYard();
        yard.addMachine(0, 0, 4);
        yard.addMachine(0, 1, 2);
        yard.addMachine(1, 2, 1);
        yard.addMachine(2, 2, 3);
        yard.setLimits(0, 25, 120);
        yard.setLimits(1, 90, 40);
        yard.buy(0, 300);
        yard.buy(1, 100);
        yard.buy(2, 3);
        yard.lend(0, 1, 40);
        yard.lend(1, 2, 1);
        yard.lend(1, 0, 7);
        yard.giveBack(1, 0, 15);
        yard.assign(2, 1);
        yard.assign(3, 2);
        yard.assign(4, 3);
        yard.logIn(0, 0);
        yard.logIn(1, 0);
        yard.logIn(2, 1);
        yard.logIn(3, 0);
        yard.logIn(5, 0);
        yard.pass(12);
        yard.print(0, 3);
        yard.print(2, 4);
        yard.takeOver(1, 2);
        yard.logOut(4);
        yard.drain(0);
        yard.drain(3);
        yard.pass(5);
        return yard;
    }

    private static void busyYard() {
        TerminalYard clean = busy();
        check.due(clean.time(), 17);
        check.letter(clean.machine(0), 'g');
        check.letter(clean.machine(3), 'm');
        check.letter(clean.state(1), 't');
        check.letter(clean.state(3), 'o');
        String due = light(clean);
        for (Consumer<TerminalYard> call : refusedByBusy()) {
            TerminalYard yard = busy();
            check.due(throwsSomething(yard, call), 1);
            check.text(light(yard), due);
        }
    }

    private static java.util.List<Consumer<TerminalYard>> refusedByBusy() {
        java.util.List<Consumer<TerminalYard>> calls = new java.util.ArrayList<>();
        calls.add(y -> y.addMachine(3, 0, 1));
        calls.add(y -> y.addMachine(0, 3, 1));
        calls.add(y -> y.addMachine(0, 0, 5));
        calls.add(y -> y.setLimits(3, 5, 5));
        calls.add(y -> y.setLimits(0, 0, 5));
        calls.add(y -> y.setLimits(0, 5, 0));
        calls.add(y -> y.setLimits(1, 5, 1000));
        calls.add(y -> y.drain(4));
        calls.add(y -> y.drain(0));
        calls.add(y -> y.drain(3));
        calls.add(y -> y.putUp(1));
        calls.add(y -> y.putUp(-1));
        calls.add(y -> y.machine(4));
        calls.add(y -> y.next(2));
        calls.add(y -> y.next(1));
        calls.add(y -> y.free(3));
        calls.add(y -> y.assign(10, 1));
        calls.add(y -> y.assign(0, 4));
        calls.add(y -> y.buy(0, 0));
        calls.add(y -> y.buy(4, 1));
        calls.add(y -> y.lend(0, 0, 5));
        calls.add(y -> y.lend(0, 4, 5));
        calls.add(y -> y.lend(2, 0, 50));
        calls.add(y -> y.giveBack(1, 1, 1));
        calls.add(y -> y.giveBack(1, 0, 26));
        calls.add(y -> y.giveBack(2, 1, 1));
        calls.add(y -> y.minutes(4));
        calls.add(y -> y.minutesBySessions(-1));
        calls.add(y -> y.logIn(10, 0));
        calls.add(y -> y.logIn(6, 3));
        calls.add(y -> y.logIn(1, 0));
        calls.add(y -> y.logIn(4, 0));
        calls.add(y -> y.logIn(6, 1));
        calls.add(y -> y.logIn(6, 2));
        calls.add(y -> y.logOut(3));
        calls.add(y -> y.logOut(4));
        calls.add(y -> y.logOut(5));
        calls.add(y -> y.use(3));
        calls.add(y -> y.use(-1));
        calls.add(y -> y.takeOver(0, 0));
        calls.add(y -> y.takeOver(0, 10));
        calls.add(y -> y.takeOver(0, 4));
        calls.add(y -> y.takeOver(4, 1));
        calls.add(y -> y.takeOver(5, 1));
        calls.add(y -> y.handBack(0));
        calls.add(y -> y.handBack(4));
        calls.add(y -> y.print(0, 0));
        calls.add(y -> y.print(0, 100));
        calls.add(y -> y.print(1, 99));
        calls.add(y -> y.print(4, 1));
        calls.add(y -> y.state(5));
        calls.add(y -> y.machineOf(5));
        calls.add(y -> y.userOf(5));
        calls.add(y -> y.charged(0, 4));
        calls.add(y -> y.endsIn(4));
        calls.add(y -> y.pass(0));
        calls.add(y -> y.pass(61));
        return calls;
    }

    /** A yard with all machines, all sessions, all minutes and all time that there can be. */
    private static TerminalYard full() {
        TerminalYard yard = new TerminalYard();
        for (int machine = 0; machine < 6; machine++) {
            yard.addMachine(machine % 3, machine % 2, 2);
        }
        for (int time = 0; time < 20; time++) {
            yard.buy(1, time == 0 ? 4999 : 5000);
        }
        yard.buy(0, 500);
        for (int session = 0; session < 39; session++) {
            yard.logIn(session % 10, session % 3);
            yard.logOut(session);
        }
        for (int hour = 0; hour < 83; hour++) {
            yard.pass(60);
        }
        yard.logIn(0, 0);
        yard.pass(18);
        return yard;
    }

    private static void fullYard() {
        java.util.List<Consumer<TerminalYard>> calls = new java.util.ArrayList<>();
        calls.add(y -> y.addMachine(0, 0, 1));
        calls.add(y -> y.buy(1, 1));
        calls.add(y -> y.logIn(1, 0));
        calls.add(y -> y.pass(3));
        calls.add(y -> y.pass(60));
        String due = light(full());
        for (Consumer<TerminalYard> call : calls) {
            TerminalYard yard = full();
            check.due(throwsSomething(yard, call), 1);
            check.text(light(yard), due);
        }
    }

    private static int throwsSomething(TerminalYard yard, Consumer<TerminalYard> call) {
        try {
            call.accept(yard);
            return 0;
        } catch (RuntimeException refused) {
            return 1;
        }
    }

    /** All that a yard answers to looks, and then to changes that show what no look shows. */
    private static String light(TerminalYard yard) {
        StringBuilder seen = new StringBuilder();
        note(seen, yard, y -> y.time());
        note(seen, yard, y -> y.pageShare());
        note(seen, yard, y -> y.meanCharge());
        for (int pool = 0; pool < 3; pool++) {
            int asked = pool;
            note(seen, yard, y -> y.next(asked));
            note(seen, yard, y -> y.free(asked));
        }
        for (int department = 0; department < 4; department++) {
            int asked = department;
            note(seen, yard, y -> y.minutes(asked));
            note(seen, yard, y -> y.minutesBySessions(asked));
        }
        for (int machine = 0; machine < 6; machine++) {
            int asked = machine;
            note(seen, yard, y -> y.machine(asked));
        }
        int[] sessions = {0, 1, 2, 3, 4, 5, 38, 39};
        for (int session : sessions) {
            lightSession(seen, yard, session);
        }
        lightUsersAndDebts(seen, yard);
        for (int pool = 0; pool < 3; pool++) {
            int asked = pool;
            note(seen, yard, y -> y.setLimits(asked, 999, 999));
        }
        note(seen, yard, y -> y.addMachine(0, 0, 1));
        note(seen, yard, y -> y.logIn(9, 0));
        note(seen, yard, y -> y.pass(2));
        return seen.toString();
    }

    private static void lightSession(StringBuilder seen, TerminalYard yard, int session) {
        note(seen, yard, y -> y.state(session));
        note(seen, yard, y -> y.machineOf(session));
        note(seen, yard, y -> y.userOf(session));
        for (int department = 0; department < 4; department++) {
            int asked = department;
            note(seen, yard, y -> y.charged(session, asked));
        }
        note(seen, yard, y -> y.endsIn(session));
        note(seen, yard, y -> y.use(session));
        note(seen, yard, y -> y.endsIn(session));
        note(seen, yard, y -> y.print(session, 1));
        note(seen, yard, y -> y.handBack(session));
    }

    private static void lightUsersAndDebts(StringBuilder seen, TerminalYard yard) {
        for (int user = 0; user < 10; user++) {
            int asked = user;
            note(seen, yard, y -> y.assign(asked, 0));
        }
        for (int from = 0; from < 4; from++) {
            int lender = from;
            note(seen, yard, y -> y.buy(lender, 5000));
            for (int to = 0; to < 4; to++) {
                int debtor = to;
                note(seen, yard, y -> y.lend(lender, debtor, 1));
            }
        }
    }

    private static void note(
            StringBuilder seen, TerminalYard yard, ToDoubleFunction<TerminalYard> call) {
        try {
            seen.append(call.applyAsDouble(yard));
        } catch (RuntimeException refused) {
            seen.append(refused.getClass().getSimpleName());
        }
        seen.append(' ');
    }
}
