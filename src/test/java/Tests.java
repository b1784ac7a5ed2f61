import java.util.ArrayList;
import java.util.List;

/** Runs tests one by one and prints a line for each, which .ci/run counts. */
final class Tests {
    /** Far more than any test needs: a call that fails to end is a fault as well. */
    private static final long MOST_MILLIS = 60_000;

    private static final List<String> NAMES = new ArrayList<>();
    private static boolean isAsDue = true;

    private Tests() {
    }

    interface Body {
        void ask(Due due) throws Exception;
    }

    static void test(String name, Body body) {
        Due due = new Due();
        Thread asking = new Thread(() -> ask(name, body, due));
        asking.setDaemon(true);
        asking.start();
        boolean isEnded = ended(asking);
        List<String> faults = isEnded ? due.faults() : List.of("it did not end");
        boolean isPassed = isEnded && due.isAsDue();
        if (NAMES.contains(name)) {
            isPassed = false;
            faults = List.of("two tests have this name");
        }
        NAMES.add(name);
        isAsDue &= isPassed;
        System.out.println((isPassed ? "ok      " : "FAILED  ") + name);
        if (!isPassed) {
            faults.forEach(fault -> System.out.println("          " + fault));
        }
        if (asking.isAlive()) {
            // It would go on beside all tests that follow, and most of these would not end either.
            System.exit(1);
        }
    }

    private static void ask(String name, Body body, Due due) {
        try {
            body.ask(due);
        } catch (Throwable thrown) {
            StackTraceElement[] at = thrown.getStackTrace();
            due.holds(thrown + (at.length > 0 ? " at " + at[0] : ""), false);
        }
    }

    private static boolean ended(Thread asking) {
        try {
            asking.join(MOST_MILLIS);
        } catch (InterruptedException stopped) {
            return false;
        }
        return !asking.isAlive();
    }

    static void end() {
        System.exit(isAsDue && !NAMES.isEmpty() ? 0 : 1);
    }
}
