/** Promises 9 to 14: departments and users. */
final class DepartmentsTest {

    private static final Class<IllegalArgumentException> ARGUMENT = IllegalArgumentException.class;
    private static final Class<IllegalStateException> STATE = IllegalStateException.class;
    private static final Class<UnsupportedOperationException> SHORT =
            UnsupportedOperationException.class;

    /** Wrong for a department, and for minutes that change hands. */
    private static final int[] WRONG_DEPARTMENTS = {-1, 4, Integer.MIN_VALUE, Integer.MAX_VALUE};
    private static final int[] WRONG_MINUTES = {0, -1, 5001, Integer.MIN_VALUE, Integer.MAX_VALUE};

    private static final Check check = new Check();

    public static void main(String[] args) {
        promise9Assign();
        promise9AssignMovesCharges();
        promise9Refused();
        promise10Buy();
        promise10MostMinutes();
        promise10Refused();
        promise11Lend();
        promise11LendOverTheMostThatIsBought();
        promise11Refused();
        promise12GiveBack();
        promise12Refused();
        promise13Minutes();
        promise14MinutesBySessions();
        check.close();
    }

    private static void promise9Assign() {
        TerminalYard yard = new TerminalYard();
        for (int user = 0; user < 10; user++) {
            check.due(yard.assign(user, user % 4), 0);
        }
        for (int user = 0; user < 10; user++) {
            check.due(yard.assign(user, 3), user % 4);
        }
        check.due(yard.assign(4, 3), 3);
    }

    private static void promise9AssignMovesCharges() {
        TerminalYard yard = new TerminalYard();
        yard.addMachine(0, 0, 2);
        yard.buy(0, 10);
        yard.buy(1, 20);
        yard.logIn(0, 0);
        yard.pass(2);
        yard.assign(0, 1);
        yard.pass(3);
        check.due(yard.charged(0, 0), 2);
        check.due(yard.charged(0, 1), 3);
        check.due(yard.minutes(0), 8);
        check.due(yard.minutes(1), 17);
        yard.print(0, 4);
        check.due(yard.charged(0, 1), 11);
        // what the owner is put into does not matter while another user has the session
        yard.takeOver(0, 5);
        yard.assign(0, 3);
        yard.pass(1);
        check.due(yard.charged(0, 0), 3);
        yard.assign(5, 1);
        yard.pass(1);
        check.due(yard.charged(0, 1), 12);
        check.due(yard.charged(0, 3), 0);
        check.due(yard.logOut(0), 15);
    }

    private static void promise9Refused() {
        TerminalYard yard = new TerminalYard();
        int[] wrongUsers = {-1, 10, Integer.MIN_VALUE, Integer.MAX_VALUE};
        for (int wrong : wrongUsers) {
            check.refused(ARGUMENT, () -> yard.assign(wrong, 1));
        }
        for (int wrong : WRONG_DEPARTMENTS) {
            check.refused(ARGUMENT, () -> yard.assign(0, wrong));
        }
        check.due(yard.assign(0, 3), 0);
        check.due(yard.assign(9, 3), 0);
    }

    private static void promise10Buy() {
        TerminalYard yard = new TerminalYard();
        check.due(yard.buy(0, 1), 1);
        check.due(yard.buy(0, 5000), 5001);
        check.due(yard.buy(3, 7), 7);
        check.due(yard.minutes(0), 5001);
        check.due(yard.minutes(1), 0);
        check.due(yard.minutes(3), 7);
    }

    private static void promise10MostMinutes() {
        TerminalYard yard = new TerminalYard();
        for (int time = 0; time < 19; time++) {
            yard.buy(2, 5000);
        }
        check.due(yard.minutes(2), 95000);
        check.refused(STATE, () -> yard.buy(2, 5000));
        check.due(yard.buy(2, 4999), 99999);
        check.refused(STATE, () -> yard.buy(2, 1));
        check.refused(ARGUMENT, () -> yard.buy(2, 0));
        check.refused(ARGUMENT, () -> yard.buy(2, 5001));
        check.due(yard.minutes(2), 99999);
        check.due(yard.minutesBySessions(2), 99999);
        yard.lend(2, 1, 10);
        check.due(yard.buy(2, 10), 99999);
    }

    private static void promise10Refused() {
        TerminalYard yard = new TerminalYard();
        for (int wrong : WRONG_DEPARTMENTS) {
            check.refused(ARGUMENT, () -> yard.buy(wrong, 1));
        }
        for (int wrong : WRONG_MINUTES) {
            check.refused(ARGUMENT, () -> yard.buy(0, wrong));
        }
        check.due(yard.minutes(0), 0);
    }

    private static void promise11Lend() {
        TerminalYard yard = new TerminalYard();
        yard.buy(0, 100);
        check.due(yard.lend(0, 1, 30), 30);
        check.due(yard.lend(0, 1, 20), 50);
        check.due(yard.lend(0, 2, 5), 5);
        check.due(yard.minutes(0), 45);
        check.due(yard.minutes(1), 50);
        check.due(yard.minutes(2), 5);
        // what is lent the other way is owed beside it
        check.due(yard.lend(1, 0, 50), 50);
        check.due(yard.minutes(0), 95);
        check.due(yard.minutes(1), 0);
        check.due(yard.lend(0, 1, 1), 51);
        check.due(yard.lend(0, 3, 94), 94);
        check.due(yard.minutes(0), 0);
    }

    private static void promise11LendOverTheMostThatIsBought() {
        TerminalYard yard = new TerminalYard();
        for (int time = 0; time < 20; time++) {
            yard.buy(0, time == 0 ? 4999 : 5000);
        }
        yard.buy(1, 5000);
        check.due(yard.lend(1, 0, 5000), 5000);
        check.due(yard.minutes(0), 104999);
        check.refused(STATE, () -> yard.buy(0, 1));
        check.due(yard.giveBack(0, 1, 5000), 0);
        check.due(yard.minutes(0), 99999);
    }

    private static void promise11Refused() {
        TerminalYard yard = new TerminalYard();
        yard.buy(0, 100);
        for (int wrong : WRONG_DEPARTMENTS) {
            check.refused(ARGUMENT, () -> yard.lend(wrong, 1, 1));
            check.refused(ARGUMENT, () -> yard.lend(0, wrong, 1));
        }
        for (int wrong : WRONG_MINUTES) {
            check.refused(ARGUMENT, () -> yard.lend(0, 1, wrong));
        }
        check.refused(ARGUMENT, () -> yard.lend(0, 0, 1));
        check.refused(ARGUMENT, () -> yard.lend(3, 3, 1));
        check.refused(SHORT, () -> yard.lend(0, 1, 101));
        check.refused(SHORT, () -> yard.lend(1, 0, 1));
        check.due(yard.minutes(0), 100);
        check.due(yard.minutes(1), 0);
        check.due(yard.lend(0, 1, 100), 100);
        for (int time = 0; time < 2; time++) {
            yard.buy(0, 5000);
        }
        check.due(yard.lend(0, 1, 5000), 5100);
    }

    private static void promise12GiveBack() {
        TerminalYard yard = new TerminalYard();
        yard.buy(0, 100);
        yard.lend(0, 1, 30);
        yard.lend(0, 2, 10);
        yard.lend(1, 2, 5);
        check.due(yard.giveBack(1, 0, 10), 20);
        check.due(yard.minutes(0), 70);
        check.due(yard.minutes(1), 15);
        check.due(yard.giveBack(2, 1, 5), 0);
        check.due(yard.giveBack(2, 0, 10), 0);
        check.due(yard.giveBack(1, 0, 20), 0);
        check.due(yard.minutes(0), 100);
        check.due(yard.minutes(1), 0);
        check.due(yard.minutes(2), 0);
        check.due(yard.lend(0, 1, 3), 3);
    }

    private static void promise12Refused() {
        TerminalYard yard = new TerminalYard();
        yard.buy(0, 100);
        yard.lend(0, 1, 30);
        yard.lend(1, 2, 20);
        for (int wrong : WRONG_DEPARTMENTS) {
            check.refused(ARGUMENT, () -> yard.giveBack(wrong, 0, 1));
            check.refused(ARGUMENT, () -> yard.giveBack(1, wrong, 1));
        }
        for (int wrong : WRONG_MINUTES) {
            check.refused(ARGUMENT, () -> yard.giveBack(1, 0, wrong));
        }
        check.refused(ARGUMENT, () -> yard.giveBack(1, 1, 1));
        check.refused(STATE, () -> yard.giveBack(0, 1, 1));
        check.refused(STATE, () -> yard.giveBack(1, 2, 1));
        check.refused(STATE, () -> yard.giveBack(3, 0, 1));
        // the department 1 owes 30 and has 10: 31 is refused for what it owes, 11 for what it has
        check.refused(STATE, () -> yard.giveBack(1, 0, 31));
        check.refused(SHORT, () -> yard.giveBack(1, 0, 11));
        check.due(yard.minutes(1), 10);
        check.due(yard.giveBack(1, 0, 10), 20);
        check.refused(SHORT, () -> yard.giveBack(1, 0, 20));
        check.refused(STATE, () -> yard.giveBack(1, 0, 21));
    }

    private static void promise13Minutes() {
        TerminalYard yard = new TerminalYard();
        yard.addMachine(0, 0, 1);
        yard.buy(0, 50);
        yard.buy(2, 9);
        yard.lend(0, 1, 20);
        yard.assign(3, 1);
        yard.logIn(3, 0);
        yard.pass(4);
        yard.print(0, 2);
        check.due(yard.minutes(0), 30);
        check.due(yard.minutes(1), 12);
        check.due(yard.minutes(2), 9);
        check.due(yard.minutes(3), 0);
        yard.giveBack(1, 0, 12);
        check.due(yard.minutes(1), 0);
        yard.pass(1);
        check.due(yard.minutes(1), 0);
        for (int wrong : WRONG_DEPARTMENTS) {
            check.refused(ARGUMENT, () -> yard.minutes(wrong));
        }
    }

    private static void promise14MinutesBySessions() {
        TerminalYard yard = new TerminalYard();
        yard.addMachine(0, 0, 4);
        yard.buy(0, 60);
        yard.buy(1, 40);
        yard.lend(0, 1, 15);
        yard.lend(1, 2, 25);
        yard.lend(2, 0, 5);
        yard.giveBack(1, 0, 6);
        yard.assign(1, 1);
        yard.assign(2, 2);
        yard.logIn(0, 0);
        yard.logIn(1, 0);
        yard.logIn(2, 0);
        yard.pass(3);
        yard.print(1, 2);
        yard.takeOver(0, 2);
        yard.pass(4);
        yard.logOut(2);
        yard.pass(1);
        int[] due = {60 - 15 + 5 + 6 - 3, 40 + 15 - 25 - 6 - 8 - 4, 25 - 5 - 7 - 5, 0};
        for (int department = 0; department < 4; department++) {
            check.due(yard.minutesBySessions(department), due[department]);
            check.due(yard.minutes(department), due[department]);
        }
        for (int wrong : WRONG_DEPARTMENTS) {
            check.refused(ARGUMENT, () -> yard.minutesBySessions(wrong));
        }
    }
}
