import java.util.Random;

/** Runs of 512 chosen calls (by fixed seeds), each answered as Model does. */
public final class RandomRuns {
    private static final int RUNS = 300;
    private static final String SIGNS = "bs0123456789,,,,;;=-x ";

    private final Random random;
    private final Due due = new Due();
    private SpiralFrames x;
    private Model m;

    private RandomRuns(long seed) {
        random = new Random(seed);
    }

    public static void main(String[] args) {
        RandomRuns runs = new RandomRuns(20261119);
        for (int run = 0; run < RUNS; run++) {
            runs.x = new SpiralFrames();
            runs.m = new Model();
            for (int call = 0; call < 512; call++) {
                runs.call("run " + run + " call " + call + " ");
            }
        }
        runs.due.end();
    }

    private int from(int low, int high) {
        return low + random.nextInt(high - low + 1);
    }

    /** Mostly within the range, now and then at its edge or beyond it. */
    private int near(int low, int high) {
        switch (random.nextInt(60)) {
            case 0: return low - 1;
            case 1: return high + 1;
            case 2: return low;
            case 3: return high;
            case 4: return random.nextInt();
            default: return from(low, high);
        }
    }

    private int step() {
        return random.nextInt(4) == 0 ? near(-11, 11) : from(-2, 2);
    }

    private String order() {
        if (random.nextInt(3) == 0) {
            return "s" + step() % 100 + "," + step() % 100;
        }
        return "b" + Math.abs(near(0, 11) % 100) + "," + Math.abs(near(0, 11) % 100) + "," + Math.abs(near(1, 12) % 100) + ","
            + Math.abs(near(1, 12) % 100) + "=" + Math.abs(near(0, 15) % 100);
    }

    private String text() {
        StringBuilder text = new StringBuilder(order());
        for (int more = random.nextInt(14); more > 0; more--) {
            text.append(';').append(random.nextInt(3) == 0 ? "s0,0" : order());
        }
        if (random.nextInt(3) == 0) {
            text.setCharAt(random.nextInt(text.length()), SIGNS.charAt(random.nextInt(SIGNS.length())));
        }
        if (random.nextInt(3) == 0) {
            text.setLength(random.nextInt(text.length() + 1));
        }
        return text.toString();
    }

    private void typeAll(String at) {
        if (random.nextInt(4) != 0) {
            due.is(at + "clearText", x.clearText(), m.clearText());
        }
        String text = text();
        for (int i = 0; i < text.length(); i++) {
            due.is(at + "type " + text, x.type(text.charAt(i)), m.type(text.charAt(i)));
        }
    }

    private void call(String at) {
        int a = near(0, 11);
        int b = near(0, 11);
        int tile = near(0, 8);
        int tolerance = random.nextInt(3) == 0 ? near(0, 240) : from(0, 30);
        boolean flag = random.nextInt(4) == 0;
        switch (random.nextInt(26)) {
            case 0: case 1: { int l = near(0, 15); due.is(at + "set", x.set(a, b, l), m.set(a, b, l)); break; }
            case 2: case 3: { int c = near(1, 12); int d = near(1, 12); int l = near(0, 15); due.is(at + "fill", x.fill(a, b, c, d, l), m.fill(a, b, c, d, l)); break; }
            case 4: { int c = step(); int d = step(); due.is(at + "shift", x.shift(c, d), m.shift(c, d)); break; }
            case 5: typeAll(at); due.is(at + "paint", x.paint(), m.paint()); break;
            case 6: { int what = near(0, 2); int v = value(what); due.is(at + "setNumber", x.setNumber(what, v), m.setNumber(what, v)); break; }
            case 7: case 8: case 9: due.is(at + "send", x.send(flag), m.send(flag)); break;
            case 10: due.is(at + "sendKeyed", x.sendKeyed(flag), m.sendKeyed(flag)); break;
            case 11: { char c = (char) random.nextInt(300); due.is(at + "type", x.type(c), m.type(c)); break; }
            case 12: if (flag) { due.is(at + "undo", x.undo(), m.undo()); } break;
            case 13: if (flag) { due.is(at + "keep", x.keep(), m.keep()); } break;
            case 14: if (flag) { due.is(at + "restore", x.restore(), m.restore()); } break;
            case 15: { int p = near(0, 2); due.is(at + "point", x.point(p, a, b), m.point(p, a, b)); break; }
            case 16: { int p = near(0, 2); int q = near(0, 2); int t = near(-1, 8); due.is(at + "difference", x.difference(p, q, t), m.difference(p, q, t)); break; }
            case 17: { int p = near(0, 24); int w = near(0, 2); due.is(at + "spiral", x.spiral(p, w), m.spiral(p, w)); break; }
            case 18: case 19: { int w = near(0, 3); due.is(at + "wouldCode", x.wouldCode(tile, tolerance, w), m.wouldCode(tile, tolerance, w)); break; }
            case 20: due.is(at + "wouldSpend", x.wouldSpend(tolerance), m.wouldSpend(tolerance)); break;
            case 21: due.is(at + "wouldNeed", x.wouldNeed(), m.wouldNeed()); break;
            case 22: { int w = near(0, 1); due.is(at + "best", x.best(tile, w), m.best(tile, w)); break; }
            case 23: { int k = near(0, 8); int w = near(0, 7); due.is(at + "frame", x.frame(k, w), m.frame(k, w)); break; }
            case 24: { int k = near(0, 8); due.is(at + "sent", x.sent(k, tile), m.sent(k, tile)); break; }
            default: all(at);
        }
    }

    private int value(int what) {
        if (what == 0) {
            return random.nextInt(3) == 0 ? near(9, 600) : near(9, 40);
        }
        return what == 1 ? near(0, random.nextInt(3) == 0 ? 240 : 10) : near(0, random.nextInt(3) == 0 ? 50 : 4);
    }

    /** Every number that is told, so that nothing stays hidden for long. */
    private void all(String at) {
        for (int what = 0; what < 13; what++) {
            due.is(at + "count " + what, x.count(what), m.count(what));
        }
        for (int i = 0; i < 3 * 144; i++) {
            due.is(at + "point", x.point(i / 144, i % 12, i / 12 % 12), m.point(i / 144, i % 12, i / 12 % 12));
        }
        for (int back = 0; back < 9; back++) {
            for (int i = 0; i < 9; i++) {
                due.is(at + "frame", x.frame(back, i), m.frame(back, i));
                due.is(at + "sent", x.sent(back, i), m.sent(back, i));
            }
        }
    }
}
