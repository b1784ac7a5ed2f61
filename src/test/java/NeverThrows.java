import java.util.Random;

/** Rule 7: any arguments in any state, also behind the 512th call, whose answers are free. */
public final class NeverThrows {
    private static final int[] EDGES = {Integer.MIN_VALUE, Integer.MIN_VALUE + 1, -145, -101, -13, -12, -11, -5, -4, -3, -2, -1, 0, 1, 2, 3,
        4, 7, 8, 9, 10, 11, 12, 13, 15, 16, 24, 25, 26, 50, 51, 60, 143, 144, 240, 241, 600, 601, Integer.MAX_VALUE - 1, Integer.MAX_VALUE};
    private static final String SIGNS = "bs0123456789,;=-";
    private static final int RUNS = 1500;
    private static final int CALLS = 700;

    private NeverThrows() {
    }

    public static void main(String[] args) {
        Tests.test("rule 7: no call throws, for any arguments in any state", due -> runs(due, new Random(7)));
        Tests.test("rule 7: no call throws, for the edges of all arguments on a new object", NeverThrows::edges);
        Tests.end();
    }

    private static void runs(Due due, Random random) {
        for (int run = 0; run < RUNS; run++) {
            SpiralFrames x = new SpiralFrames();
            for (int call = 0; call < CALLS; call++) {
                int[] a = new int[5];
                for (int i = 0; i < 5; i++) {
                    a[i] = random.nextInt(3) == 0 ? EDGES[random.nextInt(EDGES.length)] : random.nextInt(13);
                }
                int answer = any(x, random, random.nextInt(24), a);
                due.holds("run " + run + " call " + call + " answered " + answer,
                    call >= Calls.MOST || answer >= Due.NONE || answer <= -100 && answer >= -160);
            }
        }
    }

    private static void edges(Due due) {
        Random random = new Random(8);
        for (int method = 0; method < 24; method++) {
            for (int first : EDGES) {
                for (int second : EDGES) {
                    for (int third : EDGES) {
                        int answer = any(new SpiralFrames(), random, method, new int[] {first, second, third, third, first});
                        due.holds("method " + method + " answered " + answer, answer >= -101);
                    }
                }
            }
        }
    }

    private static int any(SpiralFrames x, Random random, int method, int[] a) {
        switch (method) {
            case 0: return x.set(a[0], a[1], a[2]);
            case 1: return x.fill(a[0], a[1], a[2], a[3], a[4]);
            case 2: return x.shift(a[0], a[1]);
            case 3: return x.paint();
            case 4: return x.setNumber(a[0], a[1]);
            case 5: return x.send(random.nextBoolean());
            case 6: return x.sendKeyed(random.nextBoolean());
            case 7: return x.type((char) random.nextInt(65536));
            case 8: case 9: return x.type(SIGNS.charAt(random.nextInt(SIGNS.length())));
            case 10: return random.nextInt(20) == 0 ? x.clearText() : 0;
            case 11: return x.undo();
            case 12: return x.keep();
            case 13: return x.restore();
            case 14: return x.point(a[0], a[1], a[2]);
            case 15: return x.difference(a[0], a[1], a[2]);
            case 16: return x.spiral(a[0], a[1]);
            case 17: return x.wouldCode(a[0], a[1], a[2]);
            case 18: return x.wouldSpend(a[0]);
            case 19: return x.wouldNeed();
            case 20: return x.best(a[0], a[1]);
            case 21: return x.frame(a[0], a[1]);
            case 22: return x.sent(a[0], a[1]);
            default: return x.count(a[0]);
        }
    }
}
