import java.io.IOException;

/** Promises 9 to 14, sentence by sentence. */
final class DepartmentsEdgesTest {

    private static final Check check = new Check();
    private static Sentences doc;

    public static void main(String[] args) throws IOException {
        doc = new Sentences(check, args);
        assign();
        buy();
        lend();
        giveBack();
        minutes();
        minutesBySessions();
        doc.eachHasATest(9, 14);
        check.close();
    }

    private static void assign() {
        assignsFromNowOn();
        assignsTheUserNotTheSession();
        assignUser();
        assignDepartment();
        assignDepartmentBefore();
        assignNoSuch();
    }

    private static void buy() {
        buys();
        buyDepartment();
        buyMinutes();
        buyMinutesOfTheDepartment();
        buyOutOfRange();
        buyMoreThanTheMost();
    }

    private static void lend() {
        lends();
        lendFrom();
        lendTo();
        lendMinutes();
        lendOwed();
        lendOutOfRangeOrTheSame();
        lendFewerMinutes();
        lendOverTheMostThatIsBought();
        lendAgainAndAgain();
    }

    private static void giveBack() {
        givesBack();
        giveBackFrom();
        giveBackTo();
        giveBackMinutes();
        giveBackStillOwed();
        giveBackOutOfRangeOrTheSame();
        giveBackOwesFewer();
        giveBackHasFewer();
        giveBackOverTheMostThatIsBought();
    }

    private static void minutes() {
        minutesAsKept();
        minutesDepartment();
        minutesNumber();
        minutesNoSuchDepartment();
    }

    private static void minutesBySessions() {
        minutesFoundFromAllMoves();
        minutesFoundFromEndedSessions();
        minutesBySessionsDepartment();
        minutesBySessionsNumber();
        minutesBySessionsNoSuchDepartment();
    }

    /** Departments with these minutes, from 0 on, and a machine with 4 seats in the pool 0. */
    private static TerminalYard stocks(int... minutes) {
        TerminalYard yard = new TerminalYard();
        yard.addMachine(0, 0, 4);
        for (int department = 0; department < minutes.length; department++) {
            if (minutes[department] > 0) {
                yard.buy(department, minutes[department]);
            }
        }
        return yard;
    }

    private static void minutesAre(TerminalYard yard, int... due) {
        for (int department = 0; department < due.length; department++) {
            check.due(yard.minutes(department), due[department]);
            check.due(yard.minutesBySessions(department), due[department]);
        }
    }

    private static final String ASSIGN = "Puts a user into a department; what is charged to sessions "
            + "of this user is taken from it from now on.";

    private static void assignsFromNowOn() {
        doc.says(9, ASSIGN);
        TerminalYard yard = stocks(100, 100);
        yard.logIn(0, 0);
        yard.pass(2);
        yard.assign(0, 1);
        minutesAre(yard, 98, 100, 0, 0);
        yard.pass(3);
        yard.print(0, 4);
        minutesAre(yard, 98, 89, 0, 0);
        check.due(yard.charged(0, 0), 2);
        check.due(yard.charged(0, 1), 11);
        // a department without a minute is not refused; the session ends with the next minute
        yard.assign(0, 3);
        check.letter(yard.state(0), 'a');
        check.due(yard.pass(1), 1);
        check.letter(yard.state(0), 'o');
        minutesAre(yard, 98, 89, 0, 0);
    }

    private static void assignsTheUserNotTheSession() {
        doc.says(9, ASSIGN);
        TerminalYard yard = stocks(100, 100, 100);
        yard.logIn(0, 0);
        yard.takeOver(0, 5);
        // the owner's department does not matter while another user has the session
        yard.assign(0, 1);
        yard.pass(1);
        minutesAre(yard, 99, 100, 100, 0);
        yard.assign(5, 2);
        yard.pass(1);
        minutesAre(yard, 99, 100, 99, 0);
        yard.handBack(0);
        yard.pass(1);
        minutesAre(yard, 99, 99, 99, 0);
    }

    private static void assignUser() {
        doc.says(9, "`user`: the user, 0 to 9");
        for (int user = 0; user <= 9; user++) {
            TerminalYard yard = stocks();
            check.due(yard.assign(user, 2), 0);
            for (int other = 0; other <= 9; other++) {
                check.due(yard.assign(other, 3), other == user ? 2 : 0);
            }
        }
        for (int wrong : Sentences.outside(0, 9)) {
            doc.throwsArgument(DepartmentsEdgesTest::stocks, y -> y.assign(wrong, 1));
        }
    }

    private static void assignDepartment() {
        doc.says(9, "`department`: the department, 0 to 3");
        for (int department = 0; department <= 3; department++) {
            TerminalYard yard = stocks(10, 10, 10, 10);
            yard.assign(4, department);
            yard.logIn(4, 0);
            yard.pass(3);
            for (int other = 0; other <= 3; other++) {
                check.due(yard.minutes(other), other == department ? 7 : 10);
            }
        }
        for (int wrong : Sentences.outside(0, 3)) {
            doc.throwsArgument(DepartmentsEdgesTest::stocks, y -> y.assign(1, wrong));
        }
    }

    private static void assignDepartmentBefore() {
        doc.says(9, "Returns the department before.");
        TerminalYard yard = stocks();
        check.due(yard.assign(9, 3), 0);
        check.due(yard.assign(9, 1), 3);
        check.due(yard.assign(9, 1), 1);
        check.due(yard.assign(9, 0), 1);
        check.due(yard.assign(8, 2), 0);
    }

    private static void assignNoSuch() {
        doc.says(9, "Throws `IllegalArgumentException` if there is no such user or no such department");
        doc.throwsArgument(DepartmentsEdgesTest::owing, y -> y.assign(-1, 3));
        doc.throwsArgument(DepartmentsEdgesTest::owing, y -> y.assign(10, 3));
        doc.throwsArgument(DepartmentsEdgesTest::owing, y -> y.assign(9, -1));
        doc.throwsArgument(DepartmentsEdgesTest::owing, y -> y.assign(9, 4));
        doc.throwsArgument(DepartmentsEdgesTest::owing, y -> y.assign(10, 4));
    }

    private static void buys() {
        doc.says(10, "Buys minutes.");
        TerminalYard yard = stocks();
        yard.buy(1, 3);
        minutesAre(yard, 0, 3, 0, 0);
        yard.buy(1, 4);
        yard.buy(2, 5);
        minutesAre(yard, 0, 7, 5, 0);
    }

    private static void buyDepartment() {
        doc.says(10, "`department`: the department, 0 to 3");
        for (int department = 0; department <= 3; department++) {
            TerminalYard yard = stocks();
            check.due(yard.buy(department, 6), 6);
            for (int other = 0; other <= 3; other++) {
                check.due(yard.minutes(other), other == department ? 6 : 0);
            }
        }
        for (int wrong : Sentences.outside(0, 3)) {
            doc.throwsArgument(DepartmentsEdgesTest::stocks, y -> y.buy(wrong, 6));
        }
    }

    private static void buyMinutes() {
        doc.says(10, "`minutes`: the minutes, 1 to 5000");
        check.due(stocks().buy(0, 1), 1);
        check.due(stocks().buy(0, 5000), 5000);
        for (int wrong : Sentences.outside(1, 5000)) {
            doc.throwsArgument(DepartmentsEdgesTest::stocks, y -> y.buy(0, wrong));
        }
    }

    private static void buyMinutesOfTheDepartment() {
        doc.says(10, "Returns the minutes of the department.");
        TerminalYard yard = stocks();
        check.due(yard.buy(0, 50), 50);
        check.due(yard.buy(0, 50), 100);
        // not what it has bought, but what it has
        yard.logIn(0, 0);
        yard.pass(5);
        check.due(yard.buy(0, 1), 96);
        yard.lend(0, 1, 30);
        check.due(yard.buy(0, 1), 67);
        check.due(yard.buy(1, 1), 31);
        yard.giveBack(1, 0, 30);
        check.due(yard.buy(1, 1), 2);
        check.due(yard.buy(0, 1), 98);
    }

    private static void buyOutOfRange() {
        doc.says(10, "Throws `IllegalArgumentException` if a number is out of range");
        doc.throwsArgument(DepartmentsEdgesTest::owing, y -> y.buy(-1, 7));
        doc.throwsArgument(DepartmentsEdgesTest::owing, y -> y.buy(4, 7));
        doc.throwsArgument(DepartmentsEdgesTest::owing, y -> y.buy(3, 0));
        doc.throwsArgument(DepartmentsEdgesTest::owing, y -> y.buy(3, -7));
        doc.throwsArgument(DepartmentsEdgesTest::owing, y -> y.buy(3, 5001));
        doc.throwsArgument(DepartmentsEdgesTest::owing, y -> y.buy(4, 5001));
    }

    /** The department 2 has so many minutes, above 95000. */
    private static TerminalYard almostFull(int minutes) {
        TerminalYard yard = stocks();
        for (int time = 0; time < 19; time++) {
            yard.buy(2, 5000);
        }
        yard.buy(2, minutes - 95000);
        return yard;
    }

    private static void buyMoreThanTheMost() {
        doc.says(10, "Throws `IllegalStateException` if it would have more than 99999");
        check.due(almostFull(99998).buy(2, 1), 99999);
        check.due(almostFull(95001).buy(2, 4998), 99999);
        doc.throwsState(() -> almostFull(99999), y -> y.buy(2, 1));
        doc.throwsState(() -> almostFull(99999), y -> y.buy(2, 5000));
        doc.throwsState(() -> almostFull(99998), y -> y.buy(2, 2));
        doc.throwsState(() -> almostFull(95001), y -> y.buy(2, 4999));
        check.due(almostFull(99999).buy(1, 5000), 5000);
        // what it has counts, not what it has bought
        TerminalYard yard = almostFull(99999);
        yard.lend(2, 0, 10);
        check.refused(IllegalStateException.class, () -> yard.buy(2, 11));
        check.due(yard.buy(2, 10), 99999);
        yard.assign(5, 2);
        yard.logIn(5, 0);
        yard.pass(4);
        check.refused(IllegalStateException.class, () -> yard.buy(2, 5));
        check.due(yard.buy(2, 4), 99999);
    }

    private static void lends() {
        doc.says(11, "Lends minutes.");
        TerminalYard yard = stocks(100, 0, 7);
        yard.lend(0, 1, 30);
        minutesAre(yard, 70, 30, 7, 0);
        // lent minutes are charged as any others
        yard.assign(3, 1);
        yard.logIn(3, 0);
        yard.pass(5);
        minutesAre(yard, 70, 25, 7, 0);
        yard.lend(1, 3, 25);
        minutesAre(yard, 70, 0, 7, 25);
    }

    private static void lendFrom() {
        doc.says(11, "`from`: the department that lends, 0 to 3");
        for (int from = 0; from <= 3; from++) {
            TerminalYard yard = stocks(10, 10, 10, 10);
            int to = (from + 1) % 4;
            check.due(yard.lend(from, to, 4), 4);
            for (int other = 0; other <= 3; other++) {
                check.due(yard.minutes(other), other == from ? 6 : other == to ? 14 : 10);
            }
        }
        for (int wrong : Sentences.outside(0, 3)) {
            doc.throwsArgument(() -> stocks(9, 9, 9, 9), y -> y.lend(wrong, 1, 4));
        }
    }

    private static void lendTo() {
        doc.says(11, "`to`: the department to which it lends, 0 to 3");
        for (int to = 0; to <= 3; to++) {
            TerminalYard yard = stocks(10, 10, 10, 10);
            int from = (to + 2) % 4;
            check.due(yard.lend(from, to, 3), 3);
            for (int other = 0; other <= 3; other++) {
                check.due(yard.minutes(other), other == from ? 7 : other == to ? 13 : 10);
            }
        }
        for (int wrong : Sentences.outside(0, 3)) {
            doc.throwsArgument(() -> stocks(9, 9, 9, 9), y -> y.lend(1, wrong, 4));
        }
    }

    private static void lendMinutes() {
        doc.says(11, "`minutes`: the minutes, 1 to 5000");
        check.due(stocks(5000).lend(0, 1, 1), 1);
        check.due(stocks(5000).lend(0, 1, 5000), 5000);
        for (int wrong : Sentences.outside(1, 5000)) {
            doc.throwsArgument(() -> {
                TerminalYard yard = stocks(5000);
                yard.buy(0, 5000);
                return yard;
            }, y -> y.lend(0, 1, wrong));
        }
    }

    private static void lendOwed() {
        doc.says(11, "Returns what the second one owes to the first one.");
        TerminalYard yard = stocks(100, 100, 100);
        check.due(yard.lend(0, 1, 30), 30);
        check.due(yard.lend(0, 1, 20), 50);
        check.due(yard.lend(0, 2, 5), 5);
        check.due(yard.lend(2, 1, 6), 6);
        // the other way it is another debt, and none is set off against the other
        check.due(yard.lend(1, 0, 60), 60);
        check.due(yard.lend(0, 1, 1), 51);
        yard.giveBack(1, 0, 11);
        check.due(yard.lend(0, 1, 2), 42);
        yard.giveBack(1, 0, 42);
        check.due(yard.lend(0, 1, 3), 3);
    }

    private static void lendOutOfRangeOrTheSame() {
        doc.says(11, "Throws `IllegalArgumentException` if a number is out of range, "
                + "or both are the same");
        for (int same = 0; same <= 3; same++) {
            int both = same;
            doc.throwsArgument(() -> stocks(9, 9, 9, 9), y -> y.lend(both, both, 1));
        }
        doc.throwsArgument(DepartmentsEdgesTest::owing, y -> y.lend(-1, 1, 1));
        doc.throwsArgument(DepartmentsEdgesTest::owing, y -> y.lend(4, 1, 1));
        doc.throwsArgument(DepartmentsEdgesTest::owing, y -> y.lend(0, -1, 1));
        doc.throwsArgument(DepartmentsEdgesTest::owing, y -> y.lend(0, 4, 1));
        doc.throwsArgument(DepartmentsEdgesTest::owing, y -> y.lend(0, 1, 0));
        doc.throwsArgument(DepartmentsEdgesTest::owing, y -> y.lend(0, 1, -1));
        doc.throwsArgument(DepartmentsEdgesTest::owing, y -> y.lend(0, 1, 5001));
        doc.throwsArgument(DepartmentsEdgesTest::owing, y -> y.lend(4, 4, 1));
    }

    private static void lendFewerMinutes() {
        doc.says(11, "Throws `UnsupportedOperationException` if the first one has fewer minutes");
        doc.throwsUnsupported(() -> stocks(10, 99), y -> y.lend(0, 1, 11));
        doc.throwsUnsupported(() -> stocks(10, 99), y -> y.lend(0, 1, 5000));
        doc.throwsUnsupported(() -> stocks(0, 99), y -> y.lend(0, 1, 1));
        TerminalYard yard = stocks(10, 99);
        check.due(yard.lend(0, 1, 10), 10);
        minutesAre(yard, 0, 109, 0, 0);
        // neither what it has bought nor what is owed to it counts
        check.refused(UnsupportedOperationException.class, () -> yard.lend(0, 1, 1));
    }

    private static void lendOverTheMostThatIsBought() {
        doc.says(11, "Lends minutes.");
        // the promise names no greatest stock, as that of buying does
        TerminalYard yard = almostFull(99999);
        yard.buy(1, 5000);
        check.due(yard.lend(1, 2, 5000), 5000);
        minutesAre(yard, 0, 0, 104999, 0);
        check.refused(IllegalStateException.class, () -> yard.buy(2, 1));
    }

    /** The department 0 has lent 5000 minutes 21 times, and the department 1 has them. */
    private static TerminalYard lentOften() {
        TerminalYard yard = stocks();
        for (int time = 1; time <= 21; time++) {
            yard.buy(0, 5000);
            check.due(yard.lend(0, 1, 5000), 5000 * time);
        }
        return yard;
    }

    private static void lendAgainAndAgain() {
        doc.says(11, "Returns what the second one owes to the first one.");
        // nor does the promise name a greatest debt
        TerminalYard yard = lentOften();
        minutesAre(yard, 0, 105000, 0, 0);
        check.due(yard.lend(1, 0, 1), 1);
        check.due(yard.lend(0, 1, 1), 105001);
    }

    /** The department 1 owes 30 to the department 0 and 8 to 2, and has 20; 0 owes 3 to 1. */
    private static TerminalYard owing() {
        TerminalYard yard = stocks(100, 0, 50);
        yard.lend(0, 1, 30);
        yard.lend(2, 1, 8);
        yard.lend(1, 0, 3);
        yard.assign(7, 1);
        yard.logIn(7, 0);
        yard.pass(5);
        yard.print(0, 5);
        return yard;
    }

    private static void givesBack() {
        doc.says(12, "Gives minutes back.");
        TerminalYard yard = owing();
        minutesAre(yard, 73, 20, 42, 0);
        yard.giveBack(1, 0, 12);
        minutesAre(yard, 85, 8, 42, 0);
        yard.giveBack(1, 2, 8);
        minutesAre(yard, 85, 0, 50, 0);
        yard.giveBack(0, 1, 3);
        minutesAre(yard, 82, 3, 50, 0);
    }

    /** Each department owes 4 to each other one. */
    private static TerminalYard allOwing() {
        TerminalYard yard = stocks(12, 12, 12, 12);
        for (int from = 0; from <= 3; from++) {
            for (int to = 0; to <= 3; to++) {
                if (from != to) {
                    yard.lend(from, to, 4);
                }
            }
        }
        return yard;
    }

    private static void giveBackFrom() {
        doc.says(12, "`from`: the department that owes them, 0 to 3");
        for (int from = 0; from <= 3; from++) {
            TerminalYard yard = allOwing();
            int to = (from + 1) % 4;
            int before = yard.minutes(from);
            check.due(yard.giveBack(from, to, 1), 3);
            check.due(yard.minutes(from), before - 1);
            check.due(yard.giveBack(to, from, 2), 2);
        }
        for (int wrong : Sentences.outside(0, 3)) {
            doc.throwsArgument(DepartmentsEdgesTest::allOwing, y -> y.giveBack(wrong, 1, 1));
        }
    }

    private static void giveBackTo() {
        doc.says(12, "`to`: the department to which it owes them, 0 to 3");
        for (int to = 0; to <= 3; to++) {
            TerminalYard yard = allOwing();
            int from = (to + 2) % 4;
            int before = yard.minutes(to);
            check.due(yard.giveBack(from, to, 3), 1);
            check.due(yard.minutes(to), before + 3);
            check.due(yard.giveBack(from, (to + 1) % 4, 1), 3);
        }
        for (int wrong : Sentences.outside(0, 3)) {
            doc.throwsArgument(DepartmentsEdgesTest::allOwing, y -> y.giveBack(1, wrong, 1));
        }
    }

    /** The department 1 owes 10000 to the department 0 and has them. */
    private static TerminalYard owingMuch() {
        TerminalYard yard = stocks(5000);
        yard.buy(0, 5000);
        yard.lend(0, 1, 5000);
        yard.lend(0, 1, 5000);
        return yard;
    }

    private static void giveBackMinutes() {
        doc.says(12, "`minutes`: the minutes, 1 to 5000");
        check.due(owingMuch().giveBack(1, 0, 1), 9999);
        check.due(owingMuch().giveBack(1, 0, 5000), 5000);
        for (int wrong : Sentences.outside(1, 5000)) {
            doc.throwsArgument(DepartmentsEdgesTest::owingMuch, y -> y.giveBack(1, 0, wrong));
        }
    }

    private static void giveBackStillOwed() {
        doc.says(12, "Returns what the first one still owes to the second one.");
        TerminalYard yard = owing();
        check.due(yard.giveBack(1, 0, 10), 20);
        check.due(yard.giveBack(1, 0, 1), 19);
        check.due(yard.giveBack(1, 2, 8), 0);
        check.due(yard.giveBack(0, 1, 2), 1);
        check.due(yard.lend(0, 1, 1), 20);
        check.due(yard.giveBack(1, 0, 2), 18);
    }

    private static void giveBackOutOfRangeOrTheSame() {
        doc.says(12, "Throws `IllegalArgumentException` if a number is out of range, "
                + "or both are the same");
        for (int same = 0; same <= 3; same++) {
            int both = same;
            doc.throwsArgument(DepartmentsEdgesTest::owing, y -> y.giveBack(both, both, 1));
        }
        doc.throwsArgument(DepartmentsEdgesTest::owing, y -> y.giveBack(-1, 0, 1));
        doc.throwsArgument(DepartmentsEdgesTest::owing, y -> y.giveBack(4, 0, 1));
        doc.throwsArgument(DepartmentsEdgesTest::owing, y -> y.giveBack(1, -1, 1));
        doc.throwsArgument(DepartmentsEdgesTest::owing, y -> y.giveBack(1, 4, 1));
        doc.throwsArgument(DepartmentsEdgesTest::owing, y -> y.giveBack(1, 0, 0));
        doc.throwsArgument(DepartmentsEdgesTest::owing, y -> y.giveBack(1, 0, -1));
        doc.throwsArgument(DepartmentsEdgesTest::owing, y -> y.giveBack(1, 0, 5001));
    }

    private static void giveBackOwesFewer() {
        doc.says(12, "Throws `IllegalStateException` if the first one owes fewer minutes");
        // it has more than it owes here
        doc.throwsState(DepartmentsEdgesTest::owing, y -> y.giveBack(1, 2, 9));
        check.due(owing().giveBack(1, 2, 8), 0);
        doc.throwsState(() -> {
            TerminalYard yard = owing();
            yard.giveBack(1, 2, 8);
            return yard;
        }, y -> y.giveBack(1, 2, 1));
        // what is owed the other way, or to another one, does not count
        doc.throwsState(DepartmentsEdgesTest::owing, y -> y.giveBack(0, 1, 4));
        doc.throwsState(DepartmentsEdgesTest::owing, y -> y.giveBack(2, 1, 1));
        doc.throwsState(DepartmentsEdgesTest::owing, y -> y.giveBack(0, 2, 1));
        doc.throwsState(DepartmentsEdgesTest::stocks, y -> y.giveBack(0, 1, 1));
    }

    private static void giveBackHasFewer() {
        doc.says(12, "Throws `UnsupportedOperationException` if it has fewer minutes");
        doc.throwsUnsupported(DepartmentsEdgesTest::owing, y -> y.giveBack(1, 0, 21));
        doc.throwsUnsupported(DepartmentsEdgesTest::owing, y -> y.giveBack(1, 0, 30));
        TerminalYard yard = owing();
        check.due(yard.giveBack(1, 0, 20), 10);
        minutesAre(yard, 93, 0, 42, 0);
        check.refused(UnsupportedOperationException.class, () -> yard.giveBack(1, 0, 1));
        yard.buy(1, 1);
        check.due(yard.giveBack(1, 0, 1), 9);
    }

    private static void giveBackOverTheMostThatIsBought() {
        doc.says(12, "Gives minutes back.");
        // as with lending, the promise names no greatest stock
        TerminalYard yard = almostFull(99999);
        yard.lend(2, 0, 5000);
        yard.buy(2, 5000);
        check.due(yard.giveBack(0, 2, 4999), 1);
        minutesAre(yard, 1, 0, 104998, 0);
        check.refused(IllegalStateException.class, () -> yard.buy(2, 1));
        check.due(yard.giveBack(0, 2, 1), 0);
        minutesAre(yard, 0, 0, 104999, 0);
        check.due(lentOften().giveBack(1, 0, 5000), 100000);
    }

    private static void minutesAsKept() {
        doc.says(13, "Returns the minutes of a department, as they are kept.");
        TerminalYard yard = stocks(50, 9);
        check.due(yard.minutes(0), 50);
        yard.logIn(0, 0);
        check.due(yard.minutes(0), 50);
        yard.pass(4);
        check.due(yard.minutes(0), 46);
        yard.print(0, 3);
        check.due(yard.minutes(0), 40);
        yard.lend(0, 1, 11);
        check.due(yard.minutes(0), 29);
        check.due(yard.minutes(1), 20);
        yard.giveBack(1, 0, 6);
        check.due(yard.minutes(0), 35);
        check.due(yard.minutes(1), 14);
    }

    private static void minutesDepartment() {
        doc.says(13, "`department`: the department, 0 to 3");
        TerminalYard yard = stocks(4, 3, 2, 1);
        for (int department = 0; department <= 3; department++) {
            check.due(yard.minutes(department), 4 - department);
        }
    }

    private static void minutesNumber() {
        doc.says(13, "Returns the minutes.");
        check.due(stocks().minutes(0), 0);
        check.due(almostFull(99999).minutes(2), 99999);
        // to the last minute, and not below
        TerminalYard yard = stocks(3);
        yard.logIn(0, 0);
        yard.pass(3);
        check.due(yard.minutes(0), 0);
        yard.pass(1);
        check.due(yard.minutes(0), 0);
    }

    private static void minutesNoSuchDepartment() {
        doc.says(13, "Throws `IllegalArgumentException` if there is no such department");
        for (int wrong : Sentences.outside(0, 3)) {
            doc.throwsArgument(DepartmentsEdgesTest::owing, y -> y.minutes(wrong));
        }
    }

    private static final String FOUND = "Returns the same minutes, found from what was bought and "
            + "lent, and from what was charged to all sessions.";

    private static void minutesFoundFromAllMoves() {
        doc.says(14, FOUND);
        TerminalYard yard = stocks(50, 9);
        check.due(yard.minutesBySessions(0), 50);
        yard.logIn(0, 0);
        yard.pass(4);
        check.due(yard.minutesBySessions(0), 46);
        yard.print(0, 3);
        check.due(yard.minutesBySessions(0), 40);
        yard.lend(0, 1, 11);
        check.due(yard.minutesBySessions(0), 29);
        check.due(yard.minutesBySessions(1), 20);
        yard.giveBack(1, 0, 6);
        check.due(yard.minutesBySessions(0), 35);
        check.due(yard.minutesBySessions(1), 14);
        yard.lend(1, 0, 14);
        check.due(yard.minutesBySessions(0), 49);
        check.due(yard.minutesBySessions(1), 0);
    }

    private static void minutesFoundFromEndedSessions() {
        doc.says(14, FOUND);
        TerminalYard yard = stocks(100, 3, 40);
        yard.setLimits(0, 6, 9);
        yard.assign(1, 1);
        for (int user = 0; user <= 3; user++) {
            yard.logIn(user, 0);
        }
        yard.takeOver(2, 4);
        yard.assign(4, 2);
        yard.pass(2);
        yard.logOut(3);
        yard.pass(3);
        yard.use(0);
        yard.pass(6);
        check.letter(yard.state(0), 'x');
        check.letter(yard.state(1), 'o');
        check.letter(yard.state(2), 'i');
        check.letter(yard.state(3), 'l');
        minutesAre(yard, 100 - 9 - 2, 0, 40 - 6, 0);
    }

    private static void minutesBySessionsDepartment() {
        doc.says(14, "`department`: the department, 0 to 3");
        TerminalYard yard = stocks(4, 3, 2, 1);
        for (int department = 0; department <= 3; department++) {
            check.due(yard.minutesBySessions(department), 4 - department);
        }
    }

    private static void minutesBySessionsNumber() {
        doc.says(14, "Returns the minutes.");
        check.due(stocks().minutesBySessions(3), 0);
        check.due(almostFull(99999).minutesBySessions(2), 99999);
        TerminalYard yard = stocks(3);
        yard.logIn(0, 0);
        yard.pass(4);
        check.due(yard.minutesBySessions(0), 0);
    }

    private static void minutesBySessionsNoSuchDepartment() {
        doc.says(14, "Throws `IllegalArgumentException` if there is no such department");
        for (int wrong : Sentences.outside(0, 3)) {
            doc.throwsArgument(DepartmentsEdgesTest::owing, y -> y.minutesBySessions(wrong));
        }
    }
}
