import java.lang.reflect.Method;
import java.util.Map;
import java.util.TreeMap;

/**
 * Long runs of calls, always the same ones, whose answers are compared with those of the Ledger;
 * this reaches what the single tests do not think of.
 */
final class LedgerTest {

    private static final int RUNS = 600;
    private static final int CALLS_A_RUN = 512;

    /** How often a call comes, in the order of Ledger.CALLS. */
    private static final int[] WEIGHTS = {
        6, 4, 4, 6, 3, 4, 4, 6, 12, 6, 7, 3, 6, 24, 6, 8, 12, 10, 10, 10, 3, 4, 8, 10, 16, 2, 3, 3,
    };

    private static final Check check = new Check();

    private static long seed = 1;
    private static int sessions = 0;
    private static final Map<String, Integer> reached = new TreeMap<>();

    public static void main(String[] args) {
        for (int run = 0; run < RUNS; run++) {
            seed = 7919L * run + 13;
            run(run);
        }
        theRunsReachEverything();
        check.close();
    }

    /** Every call answers, and throws each of its exceptions, and every letter is seen. */
    private static void theRunsReachEverything() {
        for (Method method : TerminalYard.class.getMethods()) {
            if (method.getDeclaringClass() != TerminalYard.class) {
                continue;
            }
            atLeast(method.getName() + " answers", RUNS);
            for (Class<?> thrown : method.getExceptionTypes()) {
                atLeast(method.getName() + " " + thrown.getSimpleName(), 20);
            }
        }
        for (char letter : "ugm".toCharArray()) {
            atLeast("machine " + letter, 100);
        }
        for (char letter : "atloix".toCharArray()) {
            atLeast("state " + letter, 100);
        }
    }

    private static void atLeast(String what, int least) {
        int times = reached.getOrDefault(what, 0);
        check.text(times < least ? what + " only " + times + " times" : "", "");
    }

    private static int below(int bound) {
        seed = seed * 6364136223846793005L + 1442695040888963407L;
        return (int) ((seed >>> 33) % bound);
    }

    private static void run(int run) {
        TerminalYard yard = new TerminalYard();
        Ledger ledger = new Ledger();
        int mood = run % 4;
        sessions = 0;
        for (int number = 0; number < CALLS_A_RUN; number++) {
            int call = drawCall();
            String name = Ledger.CALLS[call];
            int a = drawFirst(name, mood);
            int b = drawSecond(name, mood);
            int c = drawThird(name, mood);
            String due = answerOfLedger(ledger, name, a, b, c);
            String got = answerOfYard(yard, name, a, b, c);
            note(name, due);
            if (name.equals("logIn") && !due.endsWith("Exception")) {
                sessions++;
            }
            if (!got.equals(due)) {
                check.text("run " + run + ", call " + number + ": " + name + "(" + a + ", " + b + ", "
                        + c + ") " + got, due);
                return;
            }
        }
        check.due(0, 0);
    }

    private static void note(String name, String due) {
        boolean refused = due.endsWith("Exception");
        reached.merge(name + " " + (refused ? due : "answers"), 1, Integer::sum);
        if (!refused && (name.equals("machine") || name.equals("state"))) {
            reached.merge(name + " " + (char) Double.parseDouble(due), 1, Integer::sum);
        }
    }

    private static int drawCall() {
        int sum = 0;
        for (int weight : WEIGHTS) {
            sum += weight;
        }
        int drawn = below(sum);
        int call = 0;
        while (drawn >= WEIGHTS[call]) {
            drawn -= WEIGHTS[call];
            call++;
        }
        return call;
    }

    /** From least to most, and now and then just or far outside. */
    private static int around(int least, int most) {
        int strange = below(60);
        if (strange == 0) {
            return least - 1;
        }
        if (strange == 1) {
            return most + 1;
        }
        if (strange == 2) {
            return below(2) == 0 ? Integer.MIN_VALUE : Integer.MAX_VALUE;
        }
        return least + below(most - least + 1);
    }

    private static int drawMinutes(int mood) {
        if (mood == 0) {
            return below(3) == 0 ? around(1, 5000) : around(4950, 5000);
        }
        return below(8) == 0 ? around(1, 300) : around(1, mood == 1 ? 12 : 60);
    }

    private static int drawLimit(int mood) {
        return mood == 0 ? around(1, 999) : around(1, mood == 1 ? 15 : 90);
    }

    private static int drawFirst(String name, int mood) {
        switch (name) {
            case "drain": case "putUp": case "machine": return around(0, 4);
            case "addMachine": case "setLimits": case "next": case "free": return around(0, 2);
            case "assign": case "logIn": return around(0, 9);
            case "buy": return drawDepartment(mood);
            case "lend": case "giveBack": case "minutes": case "minutesBySessions":
                return around(0, 3);
            case "pass": return mood == 3 ? around(1, 60) : around(1, 9);
            default: return drawSession();
        }
    }

    /** Mostly one of the newest, which may be live. */
    private static int drawSession() {
        return below(3) == 0 ? around(0, 39) : Math.max(0, sessions - 1 - below(6));
    }

    private static int drawDepartment(int mood) {
        return mood == 0 && below(2) == 0 ? 0 : around(0, 3);
    }

    private static int drawSecond(String name, int mood) {
        switch (name) {
            case "addMachine": case "logIn": return around(0, 2);
            case "setLimits": return drawLimit(mood);
            case "buy": return drawMinutes(mood);
            case "takeOver": return around(0, 9);
            case "print": return below(4) == 0 ? around(1, 99) : around(1, 9);
            default: return around(0, 3);
        }
    }

    private static int drawThird(String name, int mood) {
        switch (name) {
            case "addMachine": return around(1, 4);
            case "setLimits": return drawLimit(mood);
            default: return mood == 0 ? drawMinutes(mood) : around(1, 25);
        }
    }

    private static String answerOfLedger(Ledger ledger, String name, int a, int b, int c) {
        try {
            return String.valueOf(ledger.answer(name, a, b, c));
        } catch (RuntimeException thrown) {
            return thrown.getClass().getSimpleName();
        }
    }

    private static String answerOfYard(TerminalYard yard, String name, int a, int b, int c) {
        try {
            return String.valueOf(ask(yard, name, a, b, c));
        } catch (RuntimeException thrown) {
            StackTraceElement[] trace = thrown.getStackTrace();
            boolean itsOwn = trace.length > 0 && trace[0].getClassName().equals("TerminalYard");
            return thrown.getClass().getSimpleName() + (itsOwn ? "" : " not thrown by the class");
        }
    }

    private static double ask(TerminalYard yard, String name, int a, int b, int c) {
        switch (name) {
            case "addMachine": return yard.addMachine(a, b, c);
            case "setLimits": return yard.setLimits(a, b, c);
            case "drain": return yard.drain(a);
            case "putUp": return yard.putUp(a);
            case "machine": return yard.machine(a);
            case "next": return yard.next(a);
            case "free": return yard.free(a);
            case "assign": return yard.assign(a, b);
            case "buy": return yard.buy(a, b);
            case "lend": return yard.lend(a, b, c);
            case "giveBack": return yard.giveBack(a, b, c);
            case "minutes": return yard.minutes(a);
            case "minutesBySessions": return yard.minutesBySessions(a);
            case "logIn": return yard.logIn(a, b);
            case "logOut": return yard.logOut(a);
            case "use": return yard.use(a);
            case "takeOver": return yard.takeOver(a, b);
            case "handBack": return yard.handBack(a);
            case "print": return yard.print(a, b);
            case "state": return yard.state(a);
            case "machineOf": return yard.machineOf(a);
            case "userOf": return yard.userOf(a);
            case "charged": return yard.charged(a, b);
            case "endsIn": return yard.endsIn(a);
            case "pass": return yard.pass(a);
            case "time": return yard.time();
            case "pageShare": return yard.pageShare();
            default: return yard.meanCharge();
        }
    }
}
