/** Counts the answers that are due and those that are not; a test ends with close(). */
final class Check {

    interface Call {
        void run();
    }

    private int passed = 0;
    private int failed = 0;
    private String topic = "";

    /** What the checks are about that follow; a failure tells it. */
    void about(String following) {
        topic = " (" + following + ")";
    }

    void due(long got, long want) {
        judge(got == want, String.valueOf(got), String.valueOf(want));
    }

    void letter(char got, char want) {
        judge(got == want, String.valueOf(got), String.valueOf(want));
    }

    void figure(double got, double want) {
        judge(got == want, String.valueOf(got), String.valueOf(want));
    }

    void text(String got, String want) {
        judge(got.equals(want), got, want);
    }

    /** The class has to throw it by a statement of its own; the library or the machine must not. */
    void refused(Class<? extends RuntimeException> want, Call call) {
        String due = want.getName() + " of TerminalYard";
        String got = "no exception";
        try {
            call.run();
        } catch (RuntimeException thrown) {
            StackTraceElement[] trace = thrown.getStackTrace();
            got = thrown.getClass().getName() + " of "
                    + (trace.length == 0 ? "the machine" : trace[0].getClassName());
        }
        judge(got.equals(due), got, due);
    }

    void close() {
        System.out.println(passed + " passed, " + failed + " failed");
        if (failed != 0) {
            System.exit(1);
        }
    }

    private void judge(boolean right, String got, String want) {
        if (right) {
            passed++;
            return;
        }
        failed++;
        System.out.println(place() + topic + " answered " + got + ", due is " + want);
    }

    private static String place() {
        return StackWalker.getInstance().walk(frames -> frames
                .filter(frame -> !frame.getClassName().matches("Check|Sentences"))
                .findFirst()
                .map(frame -> frame.getClassName() + "." + frame.getMethodName()
                        + ", line " + frame.getLineNumber())
                .orElse("somewhere"));
    }
}
