import java.util.ArrayList;
import java.util.List;
import java.util.function.Consumer;

/**
 * A call that throws changes nothing: every refused call is made on a yard of its own, and then
 * everything that can be asked or brought to light there is compared with an untouched yard.
 */
final class RefusalTest {

    private static final Check check = new Check();

    public static void main(String[] args) {
        busyYard();
        fullYard();
        check.close();
    }

    /** A yard in the middle of its work, at the time 17. */
    private static TerminalYard busy() {
        TerminalYard yard = new TerminalYard();
        yard.addMachine(0, 0, 4);
        yard.addMachine(0, 1, 2);
        yard.addMachine(1, 2, 1);
        yard.addMachine(2, 2, 3);
        yard.setLimits(0, 25, 120);
        yard.setLimits(1, 90, 40);
        yard.buy(0, 300);
        yard.buy(1, 100);
        yard.buy(2, 3);
        yard.lend(0, 1, 40);
        yard.lend(1, 2, 1);
        yard.lend(1, 0, 7);
        yard.giveBack(1, 0, 15);
        yard.assign(2, 1);
        yard.assign(3, 2);
        yard.assign(4, 3);
        yard.logIn(0, 0);
        yard.logIn(1, 0);
        yard.logIn(2, 1);
        yard.logIn(3, 0);
        yard.logIn(5, 0);
        yard.pass(12);
        yard.print(0, 3);
        yard.print(2, 4);
        yard.takeOver(1, 2);
        yard.logOut(4);
        yard.drain(0);
        yard.drain(3);
        yard.pass(5);
        return yard;
    }

    private static void busyYard() {
        TerminalYard clean = busy();
        check.due(clean.time(), 17);
        check.letter(clean.machine(0), 'g');
        check.letter(clean.machine(3), 'm');
        check.letter(clean.state(1), 't');
        check.letter(clean.state(3), 'o');
        String due = Light.on(clean);
        for (Consumer<TerminalYard> call : refusedByBusy()) {
            TerminalYard yard = busy();
            check.due(throwsSomething(yard, call), 1);
            check.text(Light.on(yard), due);
        }
    }

    private static List<Consumer<TerminalYard>> refusedByBusy() {
        List<Consumer<TerminalYard>> calls = new ArrayList<>();
        calls.add(y -> y.addMachine(3, 0, 1));
        calls.add(y -> y.addMachine(0, 3, 1));
        calls.add(y -> y.addMachine(0, 0, 5));
        calls.add(y -> y.setLimits(3, 5, 5));
        calls.add(y -> y.setLimits(0, 0, 5));
        calls.add(y -> y.setLimits(0, 5, 0));
        calls.add(y -> y.setLimits(1, 5, 1000));
        calls.add(y -> y.drain(4));
        calls.add(y -> y.drain(0));
        calls.add(y -> y.drain(3));
        calls.add(y -> y.putUp(1));
        calls.add(y -> y.putUp(-1));
        calls.add(y -> y.machine(4));
        calls.add(y -> y.next(2));
        calls.add(y -> y.next(1));
        calls.add(y -> y.free(3));
        calls.add(y -> y.assign(10, 1));
        calls.add(y -> y.assign(0, 4));
        calls.add(y -> y.buy(0, 0));
        calls.add(y -> y.buy(4, 1));
        calls.add(y -> y.lend(0, 0, 5));
        calls.add(y -> y.lend(0, 4, 5));
        calls.add(y -> y.lend(2, 0, 50));
        calls.add(y -> y.giveBack(1, 1, 1));
        calls.add(y -> y.giveBack(1, 0, 26));
        calls.add(y -> y.giveBack(2, 1, 1));
        calls.add(y -> y.minutes(4));
        calls.add(y -> y.minutesBySessions(-1));
        calls.add(y -> y.logIn(10, 0));
        calls.add(y -> y.logIn(6, 3));
        calls.add(y -> y.logIn(1, 0));
        calls.add(y -> y.logIn(4, 0));
        calls.add(y -> y.logIn(6, 1));
        calls.add(y -> y.logIn(6, 2));
        calls.add(y -> y.logOut(3));
        calls.add(y -> y.logOut(4));
        calls.add(y -> y.logOut(5));
        calls.add(y -> y.use(3));
        calls.add(y -> y.use(-1));
        calls.add(y -> y.takeOver(0, 0));
        calls.add(y -> y.takeOver(0, 10));
        calls.add(y -> y.takeOver(0, 4));
        calls.add(y -> y.takeOver(4, 1));
        calls.add(y -> y.takeOver(5, 1));
        calls.add(y -> y.handBack(0));
        calls.add(y -> y.handBack(4));
        calls.add(y -> y.print(0, 0));
        calls.add(y -> y.print(0, 100));
        calls.add(y -> y.print(1, 99));
        calls.add(y -> y.print(4, 1));
        calls.add(y -> y.state(5));
        calls.add(y -> y.machineOf(5));
        calls.add(y -> y.userOf(5));
        calls.add(y -> y.charged(0, 4));
        calls.add(y -> y.endsIn(4));
        calls.add(y -> y.pass(0));
        calls.add(y -> y.pass(61));
        return calls;
    }

    /** A yard with all machines, all sessions, all minutes and all time that there can be. */
    private static TerminalYard full() {
        TerminalYard yard = new TerminalYard();
        for (int machine = 0; machine < 6; machine++) {
            yard.addMachine(machine % 3, machine % 2, 2);
        }
        for (int time = 0; time < 20; time++) {
            yard.buy(1, time == 0 ? 4999 : 5000);
        }
        yard.buy(0, 500);
        for (int session = 0; session < 39; session++) {
            yard.logIn(session % 10, session % 3);
            yard.logOut(session);
        }
        for (int hour = 0; hour < 83; hour++) {
            yard.pass(60);
        }
        yard.logIn(0, 0);
        yard.pass(18);
        return yard;
    }

    private static void fullYard() {
        List<Consumer<TerminalYard>> calls = new ArrayList<>();
        calls.add(y -> y.addMachine(0, 0, 1));
        calls.add(y -> y.buy(1, 1));
        calls.add(y -> y.logIn(1, 0));
        calls.add(y -> y.pass(3));
        calls.add(y -> y.pass(60));
        String due = Light.on(full());
        for (Consumer<TerminalYard> call : calls) {
            TerminalYard yard = full();
            check.due(throwsSomething(yard, call), 1);
            check.text(Light.on(yard), due);
        }
    }

    private static int throwsSomething(TerminalYard yard, Consumer<TerminalYard> call) {
        try {
            call.accept(yard);
            return 0;
        } catch (RuntimeException refused) {
            return 1;
        }
    }
}
