/** Promises 26 to 29: minutes and figures. */
final class MinutesTest {

    private static final Class<IllegalArgumentException> ARGUMENT = IllegalArgumentException.class;
    private static final Class<ArithmeticException> ARITHMETIC = ArithmeticException.class;

    private static final Check check = new Check();

    public static void main(String[] args) {
        promise26Pass();
        promise26RisingNumbers();
        promise26OutOfMinutesBeforeTheLimits();
        promise26LastMinuteIsCharged();
        promise26IdleBeforeHard();
        promise26SeatIsFreeAgain();
        promise26FirstLimits();
        promise26Refused();
        promise26LastTime();
        promise27Time();
        promise28PageShare();
        promise29MeanCharge();
        check.close();
    }

    private static TerminalYard yard(int minutes) {
        TerminalYard yard = new TerminalYard();
        yard.addMachine(0, 0, 4);
        yard.addMachine(1, 1, 4);
        yard.buy(0, minutes);
        return yard;
    }

    private static void promise26Pass() {
        TerminalYard yard = yard(1000);
        yard.setLimits(0, 10, 15);
        check.due(yard.pass(1), 0);
        yard.logIn(0, 0);
        yard.logIn(1, 1);
        yard.logIn(2, 0);
        check.due(yard.pass(5), 0);
        check.due(yard.minutes(0), 1000 - 15);
        yard.use(0);
        check.due(yard.pass(4), 0);
        check.due(yard.pass(1), 1);
        check.letter(yard.state(2), 'i');
        check.due(yard.charged(2, 0), 10);
        check.due(yard.pass(60), 2);
        check.letter(yard.state(0), 'i');
        check.letter(yard.state(1), 'i');
        check.due(yard.charged(0, 0), 15);
        check.due(yard.charged(1, 0), 30);
        check.due(yard.minutes(0), 1000 - 10 - 15 - 30);
        check.due(yard.pass(60), 0);
    }

    private static void promise26RisingNumbers() {
        TerminalYard yard = yard(5);
        yard.logIn(3, 0);
        yard.logIn(2, 1);
        yard.logIn(1, 0);
        check.due(yard.pass(1), 0);
        check.due(yard.pass(1), 1);
        check.letter(yard.state(0), 'a');
        check.letter(yard.state(1), 'a');
        check.letter(yard.state(2), 'o');
        check.due(yard.charged(2, 0), 1);
        check.due(yard.charged(1, 0), 2);
        check.due(yard.minutes(0), 0);
        check.due(yard.pass(1), 2);
        check.letter(yard.state(0), 'o');
        check.due(yard.charged(0, 0), 2);
        check.due(yard.time(), 3);
    }

    private static void promise26OutOfMinutesBeforeTheLimits() {
        TerminalYard yard = yard(3);
        yard.setLimits(0, 4, 4);
        yard.logIn(0, 0);
        check.due(yard.pass(4), 1);
        check.letter(yard.state(0), 'o');
        check.due(yard.charged(0, 0), 3);
    }

    private static void promise26LastMinuteIsCharged() {
        TerminalYard yard = yard(4);
        yard.setLimits(0, 4, 999);
        yard.logIn(0, 0);
        check.due(yard.pass(60), 1);
        check.letter(yard.state(0), 'i');
        check.due(yard.charged(0, 0), 4);
        check.due(yard.minutes(0), 0);
        yard.buy(0, 4);
        yard.setLimits(0, 999, 4);
        yard.logIn(0, 0);
        check.due(yard.pass(60), 1);
        check.letter(yard.state(1), 'x');
        check.due(yard.charged(1, 0), 4);
    }

    private static void promise26IdleBeforeHard() {
        TerminalYard yard = yard(100);
        yard.setLimits(0, 5, 5);
        yard.logIn(0, 0);
        yard.logIn(1, 0);
        yard.pass(3);
        yard.use(1);
        check.due(yard.pass(2), 2);
        check.letter(yard.state(0), 'i');
        check.letter(yard.state(1), 'x');
    }

    private static void promise26SeatIsFreeAgain() {
        TerminalYard yard = new TerminalYard();
        yard.addMachine(0, 0, 1);
        yard.buy(0, 100);
        yard.setLimits(0, 2, 999);
        yard.logIn(0, 0);
        check.due(yard.free(0), 0);
        yard.pass(2);
        check.due(yard.free(0), 1);
        check.letter(yard.machine(0), 'u');
        check.due(yard.logIn(1, 0), 1);
    }

    private static void promise26FirstLimits() {
        TerminalYard yard = yard(1000);
        yard.logIn(0, 0);
        yard.logIn(1, 1);
        check.due(yard.pass(29), 0);
        check.due(yard.use(0), 29);
        check.due(yard.pass(1), 1);
        check.letter(yard.state(1), 'i');
        for (int time = 0; time < 10; time++) {
            check.due(yard.pass(20), 0);
            check.due(yard.use(0), time == 0 ? 21 : 20);
        }
        check.due(yard.endsIn(0), 10);
        check.due(yard.pass(9), 0);
        check.due(yard.pass(1), 1);
        check.letter(yard.state(0), 'x');
        check.due(yard.charged(0, 0), 240);
    }

    private static void promise26Refused() {
        TerminalYard yard = yard(100);
        yard.logIn(0, 0);
        int[] wrong = {0, -1, 61, Integer.MIN_VALUE, Integer.MAX_VALUE};
        for (int minutes : wrong) {
            check.refused(ARGUMENT, () -> yard.pass(minutes));
        }
        check.due(yard.time(), 0);
        check.due(yard.minutes(0), 100);
        check.due(yard.pass(1), 0);
        check.due(yard.pass(60), 1);
    }

    private static void promise26LastTime() {
        TerminalYard yard = yard(100);
        for (int hour = 0; hour < 83; hour++) {
            yard.pass(60);
        }
        check.due(yard.time(), 4980);
        yard.logIn(0, 0);
        check.refused(ARGUMENT, () -> yard.pass(21));
        check.refused(ARGUMENT, () -> yard.pass(60));
        check.due(yard.time(), 4980);
        check.due(yard.charged(0, 0), 0);
        check.due(yard.pass(19), 0);
        check.refused(ARGUMENT, () -> yard.pass(2));
        check.due(yard.pass(1), 0);
        check.due(yard.time(), 5000);
        check.refused(ARGUMENT, () -> yard.pass(1));
        check.due(yard.time(), 5000);
        check.due(yard.endsIn(0), 10);
    }

    private static void promise27Time() {
        TerminalYard yard = yard(100);
        check.due(yard.time(), 0);
        yard.pass(1);
        check.due(yard.time(), 1);
        yard.pass(60);
        check.due(yard.time(), 61);
        yard.logIn(0, 0);
        yard.use(0);
        check.due(yard.time(), 61);
    }

    private static void promise28PageShare() {
        TerminalYard yard = yard(2000);
        check.refused(ARITHMETIC, () -> yard.pageShare());
        yard.logIn(0, 0);
        yard.logIn(1, 1);
        check.refused(ARITHMETIC, () -> yard.pageShare());
        yard.pass(3);
        check.figure(yard.pageShare(), 0.0f);
        yard.print(0, 7);
        check.figure(yard.pageShare(), 14.0f / 20.0f);
        yard.print(1, 1);
        check.figure(yard.pageShare(), 16.0f / 22.0f);
        yard.logOut(0);
        yard.pass(1);
        check.figure(yard.pageShare(), 16.0f / 23.0f);
        TerminalYard pages = yard(2000);
        pages.logIn(0, 0);
        pages.print(0, 3);
        check.figure(pages.pageShare(), 1.0f);
    }

    private static void promise29MeanCharge() {
        TerminalYard yard = yard(2000);
        yard.buy(1, 100);
        yard.assign(2, 1);
        check.refused(ARITHMETIC, () -> yard.meanCharge());
        yard.logIn(0, 0);
        check.figure(yard.meanCharge(), 0.0);
        yard.pass(1);
        check.figure(yard.meanCharge(), 1.0);
        yard.logIn(1, 1);
        yard.logIn(2, 1);
        check.figure(yard.meanCharge(), 1.0 / 3.0);
        yard.print(2, 5);
        yard.pass(2);
        yard.takeOver(0, 2);
        yard.pass(1);
        check.figure(yard.meanCharge(), (4.0 + 3.0 + 13.0) / 3.0);
        yard.logOut(2);
        yard.pass(1);
        check.figure(yard.meanCharge(), 22.0 / 3.0);
    }
}
