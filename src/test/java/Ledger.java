import java.util.ArrayList;
import java.util.List;
import java.util.NoSuchElementException;

/**
 * The document once more, in another way: nothing is summed up or kept that can be found anew from
 * a list of all that was bought, moved and charged. It answers a call given by its number.
 */
final class Ledger {

    static final String[] CALLS = {
        "addMachine", "setLimits", "drain", "putUp", "machine", "next", "free", "assign", "buy",
        "lend", "giveBack", "minutes", "minutesBySessions", "logIn", "logOut", "use", "takeOver",
        "handBack", "print", "state", "machineOf", "userOf", "charged", "endsIn", "pass", "time",
        "pageShare", "meanCharge",
    };

    /** Minutes that a department got (or lost, below 0), with a session if they were charged. */
    private record Entry(int department, int amount, int session, boolean pages) {}

    private record Loan(int lender, int debtor, int amount) {}

    private static final class Desk {
        int pool;
        int room;
        int seats;
        char state = 'u';
    }

    private static final class Visit {
        int owner;
        int desk;
        int began;
        int last;
        char end = ' ';
        final List<Integer> users = new ArrayList<>();

        int user() {
            return users.get(users.size() - 1);
        }
    }

    private final List<Entry> entries = new ArrayList<>();
    private final List<Loan> loans = new ArrayList<>();
    private final List<Desk> desks = new ArrayList<>();
    private final List<Visit> visits = new ArrayList<>();
    private final List<int[]> printed = new ArrayList<>();
    private final int[][] limits = {{30, 240}, {30, 240}, {30, 240}};
    private final int[] home = new int[10];
    private int time = 0;

    double answer(String call, int a, int b, int c) {
        switch (call) {
            case "addMachine": return addMachine(a, b, c);
            case "setLimits": return setLimits(a, b, c);
            case "drain": return drain(a);
            case "putUp": return putUp(a);
            case "machine": return desk(a).state;
            case "next": return next(a);
            case "free": return free(a);
            case "assign": return assign(a, b);
            case "buy": return buy(a, b);
            case "lend": return lend(a, b, c);
            case "giveBack": return giveBack(a, b, c);
            case "minutes": case "minutesBySessions": return minutes(a);
            case "logIn": return logIn(a, b);
            case "logOut": return logOut(a);
            case "use": return use(a);
            case "takeOver": return takeOver(a, b);
            case "handBack": return handBack(a);
            case "print": return print(a, b);
            case "state": return state(a);
            case "machineOf": return visit(a).desk;
            case "userOf": return visit(a).user();
            case "charged": return charged(a, b);
            case "endsIn": return endsIn(a);
            case "pass": return pass(a);
            case "time": return time;
            case "pageShare": return pageShare();
            default: return meanCharge();
        }
    }

    private static void range(int number, int least, int most) {
        if (number < least || number > most) {
            throw new IllegalArgumentException();
        }
    }

    private static void state(boolean right) {
        if (!right) {
            throw new IllegalStateException();
        }
    }

    private void has(int department, int needed) {
        if (stock(department) < needed) {
            throw new UnsupportedOperationException();
        }
    }

    private Desk desk(int number) {
        if (number < 0 || number >= desks.size()) {
            throw new IndexOutOfBoundsException();
        }
        return desks.get(number);
    }

    private Visit visit(int number) {
        if (number < 0 || number >= visits.size()) {
            throw new IndexOutOfBoundsException();
        }
        return visits.get(number);
    }

    private int stock(int department) {
        return entries.stream().filter(e -> e.department == department).mapToInt(e -> e.amount).sum();
    }

    private int debt(int debtor, int lender) {
        return loans.stream().filter(l -> l.lender == lender && l.debtor == debtor)
                .mapToInt(l -> l.amount).sum();
    }

    private int live(int desk) {
        return (int) visits.stream().filter(v -> v.desk == desk && v.end == ' ').count();
    }

    private void settle() {
        for (int desk = 0; desk < desks.size(); desk++) {
            if (desks.get(desk).state == 'g' && live(desk) == 0) {
                desks.get(desk).state = 'm';
            }
        }
    }

    private int addMachine(int pool, int room, int seats) {
        range(pool, 0, 2);
        range(room, 0, 2);
        range(seats, 1, 4);
        state(desks.size() < 6);
        Desk added = new Desk();
        added.pool = pool;
        added.room = room;
        added.seats = seats;
        desks.add(added);
        return desks.size() - 1;
    }

    private int setLimits(int pool, int idle, int hard) {
        range(pool, 0, 2);
        range(idle, 1, 999);
        range(hard, 1, 999);
        int before = limits[pool][0];
        limits[pool] = new int[] {idle, hard};
        return before;
    }

    private int drain(int desk) {
        state(desk(desk).state == 'u');
        desk(desk).state = 'g';
        settle();
        return live(desk);
    }

    private int putUp(int desk) {
        state(desk(desk).state != 'u');
        desk(desk).state = 'u';
        return desk(desk).seats - live(desk);
    }

    private int next(int pool) {
        range(pool, 0, 2);
        for (int count = 0; count < 4; count++) {
            for (int desk = 0; desk < desks.size(); desk++) {
                Desk asked = desks.get(desk);
                if (asked.pool == pool && asked.state == 'u' && live(desk) == count
                        && asked.seats > count) {
                    return desk;
                }
            }
        }
        throw new NoSuchElementException();
    }

    private int free(int pool) {
        range(pool, 0, 2);
        int seats = 0;
        for (int desk = 0; desk < desks.size(); desk++) {
            if (desks.get(desk).pool == pool && desks.get(desk).state == 'u') {
                seats += desks.get(desk).seats - live(desk);
            }
        }
        return seats;
    }

    private int assign(int user, int department) {
        range(user, 0, 9);
        range(department, 0, 3);
        int before = home[user];
        home[user] = department;
        return before;
    }

    private int buy(int department, int minutes) {
        range(department, 0, 3);
        range(minutes, 1, 5000);
        state(stock(department) + minutes <= 99999);
        entries.add(new Entry(department, minutes, -1, false));
        return stock(department);
    }

    private int lend(int from, int to, int minutes) {
        range(from, 0, 3);
        range(to, 0, 3);
        range(minutes, 1, 5000);
        range(from == to ? 1 : 0, 0, 0);
        has(from, minutes);
        loans.add(new Loan(from, to, minutes));
        entries.add(new Entry(from, -minutes, -1, false));
        entries.add(new Entry(to, minutes, -1, false));
        return debt(to, from);
    }

    private int giveBack(int from, int to, int minutes) {
        range(from, 0, 3);
        range(to, 0, 3);
        range(minutes, 1, 5000);
        range(from == to ? 1 : 0, 0, 0);
        state(debt(from, to) >= minutes);
        has(from, minutes);
        loans.add(new Loan(to, from, -minutes));
        entries.add(new Entry(from, -minutes, -1, false));
        entries.add(new Entry(to, minutes, -1, false));
        return debt(from, to);
    }

    private int minutes(int department) {
        range(department, 0, 3);
        return stock(department);
    }

    private int logIn(int user, int pool) {
        range(user, 0, 9);
        range(pool, 0, 2);
        state(visits.stream().noneMatch(v -> v.owner == user && v.end == ' '));
        state(visits.size() < 40);
        has(home[user], 1);
        Visit begun = new Visit();
        begun.desk = next(pool);
        begun.owner = user;
        begun.began = time;
        begun.last = time;
        begun.users.add(user);
        visits.add(begun);
        return visits.size() - 1;
    }

    private int logOut(int session) {
        state(visit(session).end == ' ');
        visit(session).end = 'l';
        settle();
        return -entries.stream().filter(e -> e.session == session).mapToInt(e -> e.amount).sum();
    }

    private int use(int session) {
        state(visit(session).end == ' ');
        int unused = time - visit(session).last;
        visit(session).last = time;
        return unused;
    }

    private int takeOver(int session, int user) {
        Visit taken = visit(session);
        range(user, 0, 9);
        range(user == taken.user() ? 1 : 0, 0, 0);
        state(taken.end == ' ');
        has(home[user], 1);
        taken.users.add(user);
        taken.last = time;
        return taken.users.get(taken.users.size() - 2);
    }

    private int handBack(int session) {
        Visit back = visit(session);
        state(back.end == ' ' && back.user() != back.owner);
        back.users.add(back.owner);
        back.last = time;
        return back.users.get(back.users.size() - 2);
    }

    private int print(int session, int pages) {
        Visit printing = visit(session);
        range(pages, 1, 99);
        state(printing.end == ' ');
        has(home[printing.user()], 2 * pages);
        entries.add(new Entry(home[printing.user()], -2 * pages, session, true));
        printing.last = time;
        int room = desks.get(printing.desk).room;
        printed.add(new int[] {room, pages});
        return printed.stream().filter(p -> p[0] == room).mapToInt(p -> p[1]).sum();
    }

    private char state(int session) {
        Visit asked = visit(session);
        if (asked.end != ' ') {
            return asked.end;
        }
        return asked.user() == asked.owner ? 'a' : 't';
    }

    private int charged(int session, int department) {
        visit(session);
        range(department, 0, 3);
        return -entries.stream().filter(e -> e.session == session && e.department == department)
                .mapToInt(e -> e.amount).sum();
    }

    /** Tries one number of minutes after the other, as the document words it. */
    private int endsIn(int session) {
        Visit asked = visit(session);
        state(asked.end == ' ');
        int[] limit = limits[desks.get(asked.desk).pool];
        int passed = 1;
        while (time + passed - asked.last < limit[0] && time + passed - asked.began < limit[1]) {
            passed++;
        }
        return passed;
    }

    private int pass(int minutes) {
        range(minutes, 1, 60);
        range(time + minutes, 0, 5000);
        long before = visits.stream().filter(v -> v.end == ' ').count();
        for (int minute = 0; minute < minutes; minute++) {
            time++;
            for (int session = 0; session < visits.size(); session++) {
                passOne(session);
            }
            settle();
        }
        return (int) (before - visits.stream().filter(v -> v.end == ' ').count());
    }

    private void passOne(int session) {
        Visit visit = visits.get(session);
        if (visit.end != ' ') {
            return;
        }
        int payer = home[visit.user()];
        if (stock(payer) == 0) {
            visit.end = 'o';
            return;
        }
        entries.add(new Entry(payer, -1, session, false));
        int[] limit = limits[desks.get(visit.desk).pool];
        if (time - visit.last >= limit[0]) {
            visit.end = 'i';
        } else if (time - visit.began >= limit[1]) {
            visit.end = 'x';
        }
    }

    private float pageShare() {
        int all = -entries.stream().filter(e -> e.session >= 0).mapToInt(e -> e.amount).sum();
        int pages = -entries.stream().filter(e -> e.pages).mapToInt(e -> e.amount).sum();
        if (all == 0) {
            throw new ArithmeticException();
        }
        return (float) pages / (float) all;
    }

    private double meanCharge() {
        int all = -entries.stream().filter(e -> e.session >= 0).mapToInt(e -> e.amount).sum();
        if (visits.isEmpty()) {
            throw new ArithmeticException();
        }
        return (double) all / (double) visits.size();
    }
}
