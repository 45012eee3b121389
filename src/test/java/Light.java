import java.util.function.ToDoubleFunction;

/** Brings to light how a yard stands, so that two of them can be compared; the yard is used up by it. */
final class Light {

    private final StringBuilder seen = new StringBuilder();
    private final TerminalYard yard;

    private Light(TerminalYard yard) {
        this.yard = yard;
    }

    /** All that a yard answers to looks, and then to changes that show what no look shows. */
    static String on(TerminalYard yard) {
        Light light = new Light(yard);
        light.figuresAndMachines();
        int[] sessions = {0, 1, 2, 3, 4, 5, 38, 39};
        for (int session : sessions) {
            light.session(session);
        }
        light.usersAndDebts();
        light.changes();
        return light.seen.toString();
    }

    private void figuresAndMachines() {
        note(y -> y.time());
        note(y -> y.pageShare());
        note(y -> y.meanCharge());
        for (int pool = 0; pool < 3; pool++) {
            int asked = pool;
            note(y -> y.next(asked));
            note(y -> y.free(asked));
        }
        for (int department = 0; department < 4; department++) {
            int asked = department;
            note(y -> y.minutes(asked));
            note(y -> y.minutesBySessions(asked));
        }
        for (int machine = 0; machine < 6; machine++) {
            int asked = machine;
            note(y -> y.machine(asked));
        }
    }

    private void session(int session) {
        note(y -> y.state(session));
        note(y -> y.machineOf(session));
        note(y -> y.userOf(session));
        for (int department = 0; department < 4; department++) {
            int asked = department;
            note(y -> y.charged(session, asked));
        }
        note(y -> y.endsIn(session));
        note(y -> y.use(session));
        note(y -> y.endsIn(session));
        note(y -> y.print(session, 1));
        note(y -> y.handBack(session));
    }

    private void usersAndDebts() {
        for (int user = 0; user < 10; user++) {
            int asked = user;
            note(y -> y.assign(asked, 0));
        }
        for (int from = 0; from < 4; from++) {
            int lender = from;
            note(y -> y.buy(lender, 5000));
            for (int to = 0; to < 4; to++) {
                int debtor = to;
                note(y -> y.lend(lender, debtor, 1));
            }
        }
    }

    private void changes() {
        for (int pool = 0; pool < 3; pool++) {
            int asked = pool;
            note(y -> y.setLimits(asked, 999, 999));
        }
        note(y -> y.addMachine(0, 0, 1));
        note(y -> y.logIn(9, 0));
        note(y -> y.pass(2));
    }

    private void note(ToDoubleFunction<TerminalYard> call) {
        try {
            seen.append(call.applyAsDouble(yard));
        } catch (RuntimeException refused) {
            seen.append(refused.getClass().getSimpleName());
        }
        seen.append(' ');
    }
}
