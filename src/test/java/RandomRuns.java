import java.util.Random;

/** Runs of chosen calls (by fixed seeds), each answered as Model does, and of no more calls than the document tells of. */
public final class RandomRuns {
    private static final int RUNS = 800;
    /** What one step takes at most: the 61 calls of a text that is painted. */
    private static final int LONGEST_STEP = 80;
    private static final int PARTS = 4;
    private static final int LONGEST_PART = 166;
    private static final String SIGNS = "bs0123456789,,,,;;=-x ";

    private final Random random;
    private final Due due;
    private final Calls x = new Calls();
    private final Model m = new Model();
    private String at = "";

    private RandomRuns(long seed, Due due) {
        random = new Random(seed);
        this.due = due;
    }

    public static void main(String[] args) {
        for (int part = 0; part < PARTS; part++) {
            int last = part;
            Tests.test("runs of chosen calls are answered as by a second model, and at the end the part " + part + " of all", due -> {
                for (int run = 0; run < RUNS / PARTS; run++) {
                    long seed = 20261119L + run * PARTS + last;
                    new RandomRuns(seed, due).run(seed, last);
                }
            });
        }
        Tests.end();
    }

    /** Asks for one part of all that is told at the end: more would be too many calls. */
    private void run(long seed, int part) {
        while (x.made() + LONGEST_STEP + LONGEST_PART <= Calls.MOST) {
            at = "seed " + seed + " call " + x.made() + " ";
            step();
        }
        at = "seed " + seed + " at the end ";
        if (part < 3) {
            points(part);
        } else {
            countsAndLog();
        }
    }

    private int from(int low, int high) {
        return low + random.nextInt(high - low + 1);
    }

    /** Mostly within the range, now and then at its edge or beyond it. */
    private int near(int low, int high) {
        switch (random.nextInt(60)) {
            case 0: return low - 1;
            case 1: return high + 1;
            case 2: return low;
            case 3: return high;
            case 4: return random.nextInt();
            default: return from(low, high);
        }
    }

    private int away() {
        return random.nextInt(4) == 0 ? near(-11, 11) : from(-2, 2);
    }

    private String order() {
        if (random.nextInt(3) == 0) {
            return "s" + away() % 100 + "," + away() % 100;
        }
        return "b" + Math.abs(near(0, 11) % 100) + "," + Math.abs(near(0, 11) % 100) + "," + Math.abs(near(1, 12) % 100) + ","
            + Math.abs(near(1, 12) % 100) + "=" + Math.abs(near(0, 15) % 100);
    }

    private String text() {
        StringBuilder text = new StringBuilder(order());
        for (int more = random.nextInt(random.nextInt(3) == 0 ? 14 : 2); more > 0; more--) {
            text.append(';').append(random.nextInt(3) == 0 ? "s0,0" : order());
        }
        if (random.nextInt(4) == 0) {
            text.setCharAt(random.nextInt(text.length()), SIGNS.charAt(random.nextInt(SIGNS.length())));
        }
        if (random.nextInt(4) == 0) {
            text.setLength(random.nextInt(text.length() + 1));
        }
        text.setLength(Math.min(text.length(), 61));
        return text.toString();
    }

    private void paintText() {
        if (random.nextInt(4) != 0) {
            due.is(at + "clearText", x.clearText(), m.clearText());
        }
        String text = text();
        for (int i = 0; i < text.length(); i++) {
            due.is(at + "type " + text, x.type(text.charAt(i)), m.type(text.charAt(i)));
        }
        due.is(at + "paint " + text, x.paint(), m.paint());
    }

    private void step() {
        int a = near(0, 11);
        int b = near(0, 11);
        int tile = near(0, 8);
        int tolerance = random.nextInt(3) == 0 ? near(0, 240) : from(0, 30);
        boolean flag = random.nextInt(4) == 0;
        switch (random.nextInt(28)) {
            case 0: case 1: { int l = near(0, 15); due.is(at + "set", x.set(a, b, l), m.set(a, b, l)); break; }
            case 2: case 3: { int c = near(1, 12); int d = near(1, 12); int l = near(0, 15); due.is(at + "fill", x.fill(a, b, c, d, l), m.fill(a, b, c, d, l)); break; }
            case 4: case 5: { int c = away(); int d = away(); due.is(at + "shift", x.shift(c, d), m.shift(c, d)); break; }
            case 6: if (flag) { paintText(); } else { due.is(at + "paint", x.paint(), m.paint()); } break;
            case 7: { int what = near(0, 2); int v = value(what); due.is(at + "setNumber", x.setNumber(what, v), m.setNumber(what, v)); break; }
            case 8: case 9: case 10: case 11: due.is(at + "send", x.send(flag), m.send(flag)); break;
            case 12: due.is(at + "sendKeyed", x.sendKeyed(flag), m.sendKeyed(flag)); break;
            case 13: { char c = (char) random.nextInt(300); due.is(at + "type", x.type(c), m.type(c)); break; }
            case 14: if (flag) { due.is(at + "undo", x.undo(), m.undo()); } break;
            case 15: if (flag) { due.is(at + "keep", x.keep(), m.keep()); } break;
            case 16: if (flag) { due.is(at + "restore", x.restore(), m.restore()); } break;
            case 17: { int p = near(0, 2); due.is(at + "point", x.point(p, a, b), m.point(p, a, b)); break; }
            case 18: { int p = near(0, 2); int q = near(0, 2); int t = near(-1, 8); due.is(at + "difference", x.difference(p, q, t), m.difference(p, q, t)); break; }
            case 19: { int p = near(0, 24); int w = near(0, 2); due.is(at + "spiral", x.spiral(p, w), m.spiral(p, w)); break; }
            case 20: case 21: { int w = near(0, 3); due.is(at + "wouldCode", x.wouldCode(tile, tolerance, w), m.wouldCode(tile, tolerance, w)); break; }
            case 22: due.is(at + "wouldSpend", x.wouldSpend(tolerance), m.wouldSpend(tolerance)); break;
            case 23: due.is(at + "wouldNeed", x.wouldNeed(), m.wouldNeed()); break;
            case 24: { int w = near(0, 1); due.is(at + "best", x.best(tile, w), m.best(tile, w)); break; }
            case 25: { int k = near(0, 8); int w = near(0, 7); due.is(at + "frame", x.frame(k, w), m.frame(k, w)); break; }
            case 26: { int k = near(0, 8); due.is(at + "sent", x.sent(k, tile), m.sent(k, tile)); break; }
            default: { int w = near(0, 12); due.is(at + "count", x.count(w), m.count(w)); }
        }
    }

    private int value(int what) {
        if (what == 0) {
            return random.nextInt(3) == 0 ? near(9, 600) : near(9, 40);
        }
        return what == 1 ? near(0, random.nextInt(3) == 0 ? 240 : 10) : near(0, random.nextInt(3) == 0 ? 50 : 4);
    }

    private void points(int picture) {
        for (int i = 0; i < 144; i++) {
            due.is(at + "point " + i + " of " + picture, x.point(picture, i % 12, i / 12), m.point(picture, i % 12, i / 12));
        }
    }

    private void countsAndLog() {
        for (int what = 0; what < 13; what++) {
            due.is(at + "count " + what, x.count(what), m.count(what));
        }
        for (int back = 0; back < 9; back++) {
            for (int i = 0; i < 8; i++) {
                due.is(at + "frame", x.frame(back, i), m.frame(back, i));
            }
            for (int tile = 0; tile < 9; tile++) {
                due.is(at + "sent", x.sent(back, tile), m.sent(back, tile));
            }
        }
    }
}
