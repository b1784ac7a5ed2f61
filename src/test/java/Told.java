import java.util.Arrays;
import java.util.stream.IntStream;

/**
 * All that is told behind a run of calls. Each part is asked of a new object on which the run is made again, so that the
 * asking takes no object beyond 512 calls.
 */
final class Told {
    static final int SCREENS_TOLD = 3 * 144;
    static final int COUNTS_TOLD = 11;
    static final int LOG_TOLD = 10 * 17;

    private Told() {
    }

    /** All but the text, the history and the snapshot: what a state is. */
    static int[] state(Run run) {
        return IntStream.concat(
            IntStream.range(0, 3).flatMap(picture -> Arrays.stream(points(run.made(), picture))),
            Arrays.stream(countsAndLog(run.made()))).toArray();
    }

    /** The state, and those behind each undo(), behind restore() and behind paint(), which shows the text. */
    static int[] all(Run run) {
        IntStream all = Arrays.stream(state(run));
        for (int undone = 1; undone <= 4; undone++) {
            int times = undone;
            all = IntStream.concat(all, Arrays.stream(behind(run, x -> undo(x, times))));
        }
        all = IntStream.concat(all, Arrays.stream(behind(run, Calls::restore)));
        all = IntStream.concat(all, Arrays.stream(behind(run, Calls::paint)));
        Calls x = run.made();
        return IntStream.concat(all, IntStream.of(x.count(11), x.count(12))).toArray();
    }

    static int[] points(Calls x, int picture) {
        int[] points = new int[144];
        for (int i = 0; i < 144; i++) {
            points[i] = x.point(picture, i % 12, i / 12);
        }
        return points;
    }

    private static int undo(Calls x, int times) {
        int answer = 0;
        for (int i = 0; i < times; i++) {
            answer = x.undo();
        }
        return answer;
    }

    private static int[] behind(Run run, Due.ToInt call) {
        return IntStream.concat(IntStream.of(call.of(run.made())), Arrays.stream(state(run.then(call::of)))).toArray();
    }

    private static int[] countsAndLog(Calls x) {
        int[] told = new int[COUNTS_TOLD + LOG_TOLD];
        int at = 0;
        for (int what = 0; what < COUNTS_TOLD; what++) {
            told[at++] = x.count(what);
        }
        for (int back = 0; back < 10; back++) {
            for (int what = 0; what < 8; what++) {
                told[at++] = x.frame(back, what);
            }
            for (int tile = 0; tile < 9; tile++) {
                told[at++] = x.sent(back, tile);
            }
        }
        return told;
    }
}
