import java.util.ArrayList;
import java.util.NoSuchElementException;

/**
 * A yard of terminals: machines with seats in pools, sessions with idle and hard ends, minutes of
 * departments, printers in rooms, and machines that are drained for repair.
 */
public final class TerminalYard {

    private static final int POOLS = 3;
    private static final int ROOMS = 3;
    private static final int MACHINES = 6;
    private static final int SEATS = 4;
    private static final int DEPARTMENTS = 4;
    private static final int USERS = 10;
    private static final int SESSIONS = 40;

    private static final int FIRST_IDLE_LIMIT = 30;
    private static final int FIRST_HARD_LIMIT = 240;
    private static final int LARGEST_LIMIT = 999;
    private static final int LARGEST_TRADE = 5000;
    private static final int LARGEST_STOCK = 99999;
    private static final int LARGEST_PRINT = 99;
    private static final int MINUTES_A_PAGE = 2;
    private static final int LONGEST_PASS = 60;
    private static final int LAST_TIME = 5000;

    private static final char UP = 'u';
    private static final char DRAINING = 'g';
    private static final char IN_REPAIR = 'm';

    private static final char LIVE = 'a';
    private static final char TAKEN_OVER = 't';
    private static final char LOGGED_OUT = 'l';
    private static final char OUT_OF_MINUTES = 'o';
    private static final char IDLE_END = 'i';
    private static final char HARD_END = 'x';

    private final int[] idleLimits = new int[POOLS];
    private final int[] hardLimits = new int[POOLS];
    private final int[] pagesInRoom = new int[ROOMS];
    private final int[] departmentOf = new int[USERS];
    private final int[] kept = new int[DEPARTMENTS];
    private final int[] bought = new int[DEPARTMENTS];
    /** The first index owes to the second; the two directions are never set off against each other. */
    private final int[][] owed = new int[DEPARTMENTS][DEPARTMENTS];
    private final ArrayList<Machine> machines = new ArrayList<Machine>();
    private final ArrayList<Session> sessions = new ArrayList<Session>();
    private int now = 0;
    private int chargedForPages = 0;

    private static final class Machine {
        final int number;
        final int pool;
        final int room;
        final int seats;
        char condition = UP;
        int live = 0;

        Machine(int number, int pool, int room, int seats) {
            this.number = number;
            this.pool = pool;
            this.room = room;
            this.seats = seats;
        }

        int freeSeats() {
            return seats - live;
        }

        boolean serves(int wantedPool) {
            return condition == UP && pool == wantedPool;
        }

        void repairWhenEmpty() {
            if (condition == DRAINING && live == 0) {
                condition = IN_REPAIR;
            }
        }
    }

    private static final class Session {
        final int owner;
        final Machine host;
        final int began;
        final int[] chargedFrom = new int[DEPARTMENTS];
        int holder;
        int usedLast;
        char condition = LIVE;

        Session(int owner, Machine host, int began) {
            this.owner = owner;
            this.host = host;
            this.began = began;
            this.holder = owner;
            this.usedLast = began;
        }

        boolean isLive() {
            return condition == LIVE;
        }

        int chargedInAll() {
            int sum = 0;
            for (int department = 0; department < DEPARTMENTS; department++) {
                sum += chargedFrom[department];
            }
            return sum;
        }
    }

    public TerminalYard() {
        for (int pool = 0; pool < POOLS; pool++) {
            idleLimits[pool] = FIRST_IDLE_LIMIT;
            hardLimits[pool] = FIRST_HARD_LIMIT;
        }
    }

    // ---- machines and pools

    public int addMachine(int pool, int room, int seats)
            throws IllegalArgumentException, IllegalStateException {
        checkPool(pool);
        if (isOutside(room, 0, ROOMS - 1)) {
            throw new IllegalArgumentException("no such room");
        }
        if (isOutside(seats, 1, SEATS)) {
            throw new IllegalArgumentException("a machine has from 1 to 4 seats");
        }
        int number = machines.size();
        if (number >= MACHINES) {
            throw new IllegalStateException("there are 6 machines");
        }
        machines.add(new Machine(number, pool, room, seats));
        return number;
    }

    public int setLimits(int pool, int idle, int hard) throws IllegalArgumentException {
        checkPool(pool);
        if (isOutside(idle, 1, LARGEST_LIMIT) || isOutside(hard, 1, LARGEST_LIMIT)) {
            throw new IllegalArgumentException("a limit is from 1 to 999");
        }
        int before = idleLimits[pool];
        idleLimits[pool] = idle;
        hardLimits[pool] = hard;
        return before;
    }

    public int drain(int machine) throws IndexOutOfBoundsException, IllegalStateException {
        Machine drained = machineAt(machine);
        if (drained.condition != UP) {
            throw new IllegalStateException("the machine is not up");
        }
        drained.condition = DRAINING;
        drained.repairWhenEmpty();
        return drained.live;
    }

    public int putUp(int machine) throws IndexOutOfBoundsException, IllegalStateException {
        Machine mended = machineAt(machine);
        if (mended.condition == UP) {
            throw new IllegalStateException("the machine is up");
        }
        mended.condition = UP;
        return mended.freeSeats();
    }

    public char machine(int machine) throws IndexOutOfBoundsException {
        return machineAt(machine).condition;
    }

    public int next(int pool) throws IllegalArgumentException, NoSuchElementException {
        checkPool(pool);
        return emptiestMachine(pool).number;
    }

    public int free(int pool) throws IllegalArgumentException {
        checkPool(pool);
        int seats = 0;
        for (int i = 0; i < machines.size(); i++) {
            Machine machine = machines.get(i);
            if (machine.serves(pool)) {
                seats += machine.freeSeats();
            }
        }
        return seats;
    }

    // ---- departments and users

    public int assign(int user, int department) throws IllegalArgumentException {
        checkUser(user);
        checkDepartment(department);
        int before = departmentOf[user];
        departmentOf[user] = department;
        return before;
    }

    public int buy(int department, int minutes)
            throws IllegalArgumentException, IllegalStateException {
        checkDepartment(department);
        checkTrade(minutes);
        if (kept[department] + minutes > LARGEST_STOCK) {
            throw new IllegalStateException("a department buys up to 99999 minutes");
        }
        bought[department] += minutes;
        kept[department] += minutes;
        return kept[department];
    }

    public int lend(int from, int to, int minutes)
            throws IllegalArgumentException, UnsupportedOperationException {
        checkPair(from, to);
        checkTrade(minutes);
        checkStock(from, minutes);
        move(from, to, minutes);
        owed[to][from] += minutes;
        return owed[to][from];
    }

    public int giveBack(int from, int to, int minutes)
            throws IllegalArgumentException, IllegalStateException, UnsupportedOperationException {
        checkPair(from, to);
        checkTrade(minutes);
        if (owed[from][to] < minutes) {
            throw new IllegalStateException("the department owes fewer minutes");
        }
        checkStock(from, minutes);
        move(from, to, minutes);
        owed[from][to] -= minutes;
        return owed[from][to];
    }

    public int minutes(int department) throws IllegalArgumentException {
        checkDepartment(department);
        return kept[department];
    }

    public int minutesBySessions(int department) throws IllegalArgumentException {
        checkDepartment(department);
        int found = bought[department];
        for (int other = 0; other < DEPARTMENTS; other++) {
            found += owed[department][other] - owed[other][department];
        }
        for (int i = 0; i < sessions.size(); i++) {
            found -= sessions.get(i).chargedFrom[department];
        }
        return found;
    }

    // ---- sessions

    public int logIn(int user, int pool)
            throws IllegalArgumentException, IllegalStateException,
                    UnsupportedOperationException, NoSuchElementException {
        checkUser(user);
        checkPool(pool);
        if (ownsLiveSession(user)) {
            throw new IllegalStateException("the user owns a live session");
        }
        int number = sessions.size();
        if (number >= SESSIONS) {
            throw new IllegalStateException("there were 40 sessions");
        }
        checkStock(departmentOf[user], 1);
        Machine host = emptiestMachine(pool);
        host.live++;
        sessions.add(new Session(user, host, now));
        return number;
    }

    public int logOut(int session) throws IndexOutOfBoundsException, IllegalStateException {
        Session left = liveSessionAt(session);
        end(left, LOGGED_OUT);
        return left.chargedInAll();
    }

    public int use(int session) throws IndexOutOfBoundsException, IllegalStateException {
        Session used = liveSessionAt(session);
        int unused = now - used.usedLast;
        used.usedLast = now;
        return unused;
    }

    public int takeOver(int session, int user)
            throws IndexOutOfBoundsException, IllegalArgumentException,
                    IllegalStateException, UnsupportedOperationException {
        Session taken = sessionAt(session);
        checkUser(user);
        if (taken.holder == user) {
            throw new IllegalArgumentException("this is the user of the session");
        }
        checkLive(taken);
        checkStock(departmentOf[user], 1);
        return passTo(taken, user);
    }

    public int handBack(int session) throws IndexOutOfBoundsException, IllegalStateException {
        Session returned = liveSessionAt(session);
        if (returned.holder == returned.owner) {
            throw new IllegalStateException("the owner is the user of the session");
        }
        return passTo(returned, returned.owner);
    }

    public int print(int session, int pages)
            throws IndexOutOfBoundsException, IllegalArgumentException,
                    IllegalStateException, UnsupportedOperationException {
        Session printing = sessionAt(session);
        if (isOutside(pages, 1, LARGEST_PRINT)) {
            throw new IllegalArgumentException("pages are printed from 1 to 99 at once");
        }
        checkLive(printing);
        int cost = pages * MINUTES_A_PAGE;
        checkStock(departmentOf[printing.holder], cost);
        charge(printing, cost);
        chargedForPages += cost;
        printing.usedLast = now;
        int room = printing.host.room;
        pagesInRoom[room] += pages;
        return pagesInRoom[room];
    }

    public char state(int session) throws IndexOutOfBoundsException {
        Session asked = sessionAt(session);
        if (asked.isLive() && asked.holder != asked.owner) {
            return TAKEN_OVER;
        }
        return asked.condition;
    }

    public int machineOf(int session) throws IndexOutOfBoundsException {
        return sessionAt(session).host.number;
    }

    public int userOf(int session) throws IndexOutOfBoundsException {
        return sessionAt(session).holder;
    }

    public int charged(int session, int department)
            throws IndexOutOfBoundsException, IllegalArgumentException {
        Session asked = sessionAt(session);
        checkDepartment(department);
        return asked.chargedFrom[department];
    }

    public int endsIn(int session) throws IndexOutOfBoundsException, IllegalStateException {
        Session asked = liveSessionAt(session);
        int pool = asked.host.pool;
        int untilIdle = asked.usedLast + idleLimits[pool] - now;
        int untilHard = asked.began + hardLimits[pool] - now;
        // a limit that was lowered below what has passed ends the session with the next minute only
        return Math.max(1, Math.min(untilIdle, untilHard));
    }

    // ---- minutes and figures

    public int pass(int minutes) throws IllegalArgumentException {
        if (isOutside(minutes, 1, LONGEST_PASS)) {
            throw new IllegalArgumentException("from 1 to 60 minutes pass at once");
        }
        if (now + minutes > LAST_TIME) {
            throw new IllegalArgumentException("time is counted up to 5000");
        }
        int ended = 0;
        for (int minute = 0; minute < minutes; minute++) {
            now++;
            ended += chargeLiveSessions();
        }
        return ended;
    }

    public int time() {
        return now;
    }

    public float pageShare() throws ArithmeticException {
        int all = chargedToAllSessions();
        if (all == 0) {
            throw new ArithmeticException("nothing was charged");
        }
        return (float) chargedForPages / (float) all;
    }

    public double meanCharge() throws ArithmeticException {
        int count = sessions.size();
        if (count == 0) {
            throw new ArithmeticException("there were no sessions");
        }
        return (double) chargedToAllSessions() / (double) count;
    }

    // ---- the checks behind the face

    private static boolean isOutside(int number, int least, int most) {
        return number < least || number > most;
    }

    private static void checkPool(int pool) {
        if (isOutside(pool, 0, POOLS - 1)) {
            throw new IllegalArgumentException("no such pool");
        }
    }

    private static void checkUser(int user) {
        if (isOutside(user, 0, USERS - 1)) {
            throw new IllegalArgumentException("no such user");
        }
    }

    private static void checkDepartment(int department) {
        if (isOutside(department, 0, DEPARTMENTS - 1)) {
            throw new IllegalArgumentException("no such department");
        }
    }

    private static void checkPair(int from, int to) {
        checkDepartment(from);
        checkDepartment(to);
        if (from == to) {
            throw new IllegalArgumentException("both departments are the same");
        }
    }

    private static void checkTrade(int minutes) {
        if (isOutside(minutes, 1, LARGEST_TRADE)) {
            throw new IllegalArgumentException("from 1 to 5000 minutes change hands at once");
        }
    }

    private void checkStock(int department, int needed) {
        if (kept[department] < needed) {
            throw new UnsupportedOperationException("the department has too few minutes");
        }
    }

    private static void checkLive(Session session) {
        if (!session.isLive()) {
            throw new IllegalStateException("the session is not live");
        }
    }

    private Machine machineAt(int number) {
        if (isOutside(number, 0, machines.size() - 1)) {
            throw new IndexOutOfBoundsException("no such machine");
        }
        return machines.get(number);
    }

    private Session sessionAt(int number) {
        if (isOutside(number, 0, sessions.size() - 1)) {
            throw new IndexOutOfBoundsException("no such session");
        }
        return sessions.get(number);
    }

    private Session liveSessionAt(int number) {
        Session session = sessionAt(number);
        checkLive(session);
        return session;
    }

    // ---- the work behind the face

    private Machine emptiestMachine(int pool) {
        Machine best = null;
        for (int i = 0; i < machines.size(); i++) {
            Machine machine = machines.get(i);
            if (machine.serves(pool) && machine.freeSeats() > 0
                    && (best == null || machine.live < best.live)) {
                best = machine;
            }
        }
        if (best == null) {
            throw new NoSuchElementException("no machine of the pool takes a session");
        }
        return best;
    }

    private boolean ownsLiveSession(int user) {
        for (int i = 0; i < sessions.size(); i++) {
            Session session = sessions.get(i);
            if (session.owner == user && session.isLive()) {
                return true;
            }
        }
        return false;
    }

    private void move(int from, int to, int minutes) {
        kept[from] -= minutes;
        kept[to] += minutes;
    }

    private void charge(Session session, int minutes) {
        int department = departmentOf[session.holder];
        kept[department] -= minutes;
        session.chargedFrom[department] += minutes;
    }

    private int passTo(Session session, int user) {
        int before = session.holder;
        session.holder = user;
        session.usedLast = now;
        return before;
    }

    private void end(Session session, char how) {
        session.condition = how;
        session.host.live--;
        session.host.repairWhenEmpty();
    }

    private int chargeLiveSessions() {
        int ended = 0;
        for (int i = 0; i < sessions.size(); i++) {
            Session session = sessions.get(i);
            if (session.isLive()) {
                char how = afterOneMinute(session);
                if (how != LIVE) {
                    end(session, how);
                    ended++;
                }
            }
        }
        return ended;
    }

    private char afterOneMinute(Session session) {
        if (kept[departmentOf[session.holder]] < 1) {
            return OUT_OF_MINUTES;
        }
        charge(session, 1);
        int pool = session.host.pool;
        if (now - session.usedLast >= idleLimits[pool]) {
            return IDLE_END;
        }
        if (now - session.began >= hardLimits[pool]) {
            return HARD_END;
        }
        return LIVE;
    }

    private int chargedToAllSessions() {
        int sum = 0;
        for (int i = 0; i < sessions.size(); i++) {
            sum += sessions.get(i).chargedInAll();
        }
        return sum;
    }
}
