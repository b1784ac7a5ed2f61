import java.util.ArrayList;
import java.util.List;
import java.util.function.IntUnaryOperator;

/** What one test asked, and the answers that were not as due. */
final class Due {
    static final int UNKNOWN = -1;
    static final int BAD_VALUE = -2;
    static final int FULL = -3;
    static final int NOT_POSSIBLE = -4;
    static final int NONE = -5;

    private static final int TOLD_FAULTS = 10;

    private final List<String> faults = new ArrayList<>();
    private int asked = 0;
    private int wrong = 0;

    void is(String call, int got, int want) {
        asked++;
        if (got != want) {
            wrong++;
            if (wrong <= TOLD_FAULTS) {
                faults.add(call + " answered " + got + ", due is " + want);
            }
        }
    }

    void holds(String what, boolean isSo) {
        is(what, isSo ? 1 : 0, 1);
    }

    /** The calls of a row are due to answer the numbers of a row. */
    void are(String calls, int[] got, int... want) {
        is(calls + " (how many)", got.length, want.length);
        for (int i = 0; i < Math.min(got.length, want.length); i++) {
            is(calls + " (answer " + i + ")", got[i], want[i]);
        }
    }

    /** No number of the range is answered by an error, and each one beyond it by this error. */
    void range(String argument, int low, int high, int error, IntUnaryOperator call) {
        for (int number = low; number <= high; number++) {
            int answer = call.applyAsInt(number);
            holds(argument + " " + number + " is within, but answered " + answer, answer >= 0 || answer == NONE);
        }
        for (int away = 1; away <= 20; away++) {
            beyond(argument, low - away, error, call);
            beyond(argument, high + away, error, call);
        }
        for (int bit = 10; bit < 32; bit++) {
            beyond(argument, (1 << bit) + low, error, call);
            beyond(argument, -(1 << bit) + high, error, call);
        }
        beyond(argument, Integer.MAX_VALUE, error, call);
        beyond(argument, Integer.MIN_VALUE, error, call);
    }

    private void beyond(String argument, int number, int error, IntUnaryOperator call) {
        is(argument + " " + number, call.applyAsInt(number), error);
    }

    /** The call answers so, and all that is told is as it would be without it. */
    void changesNothing(String call, Run ahead, int want, ToInt refused) {
        is(call, refused.of(ahead.made()), want);
        are("all that is told behind " + call, Told.all(ahead.then(refused::of)), Told.all(ahead));
    }

    boolean isAsDue() {
        return wrong == 0 && asked > 0;
    }

    List<String> faults() {
        return asked > 0 ? faults : List.of("nothing was asked");
    }

    /** One call, and what it answers. */
    interface ToInt {
        int of(Calls x);
    }
}
