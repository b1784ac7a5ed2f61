/** Promise 11: undo. */
public final class Promise11Undo {
    private static final Due DUE = new Due();

    public static void main(String[] args) {
        order();
        fourStates();
        everyAct();
        log();
        DUE.end();
    }

    private static void order() {
        SpiralFrames x = new SpiralFrames();
        DUE.is("nothing to undo", x.undo(), Due.NONE);
        x.set(0, 0, 1);
        x.set(0, 0, 2);
        DUE.is("the latest", x.undo(), 1);
        DUE.is("the level", x.point(0, 0, 0), 1);
        x.set(0, 0, 3);
        DUE.is("the one behind it", x.undo(), 1);
        DUE.is("the level", x.point(0, 0, 0), 1);
        DUE.is("the first", x.undo(), 0);
        DUE.is("the level", x.point(0, 0, 0), 0);
        DUE.is("no more", x.undo(), Due.NONE);
        DUE.is("undo is not an act", x.count(11), 0);
    }

    private static void fourStates() {
        SpiralFrames x = new SpiralFrames();
        for (int level = 1; level <= 11; level++) {
            x.set(3, 3, level);
            DUE.is("states", x.count(11), Math.min(4, level));
        }
        for (int left = 3; left >= 0; left--) {
            DUE.is("undo()", x.undo(), left);
            DUE.is("level", x.point(0, 3, 3), 7 + left);
        }
        DUE.is("the oldest ones are dropped", x.undo(), Due.NONE);
        DUE.is("level", x.point(0, 3, 3), 7);
    }

    private static void everyAct() {
        for (int act = 0; act < 8; act++) {
            SpiralFrames x = new SpiralFrames();
            x.setNumber(0, 600);
            Due.type(x, "b0,0,9,9=1");
            x.fill(2, 2, 2, 2, 2);
            x.keep();
            x.set(7, 7, 7);
            int[] before = Due.state(x);
            DUE.is("act " + act + " is no error", act(x, act) >= 0 ? 1 : 0, 1);
            DUE.is("act " + act + " is recorded", x.count(11), 4);
            DUE.is("act " + act + " is undone", x.undo(), 3);
            DUE.are("state ahead of act " + act, Due.state(x), before);
            DUE.is("the text is left", x.count(12), 10);
        }
    }

    private static int act(SpiralFrames x, int act) {
        switch (act) {
            case 0: return x.set(1, 1, 9);
            case 1: return x.fill(1, 1, 3, 3, 9);
            case 2: return x.shift(2, 1);
            case 3: return x.paint();
            case 4: return x.setNumber(2, 3);
            case 5: return x.send(true);
            case 6: return x.sendKeyed(false);
            default: return x.restore();
        }
    }

    /** The log and what is saved are brought back with more frames behind than the log knows. */
    private static void log() {
        SpiralFrames x = new SpiralFrames();
        for (int i = 0; i < 10; i++) {
            x.fill(0, 0, 4, 4, 1 + i);
            x.send(i % 3 == 0);
        }
        int[] before = Due.state(x);
        for (int i = 0; i < 4; i++) {
            x.send(true);
        }
        for (int left = 3; left >= 0; left--) {
            DUE.is("undo()", x.undo(), left);
        }
        DUE.are("the log is as it was", Due.state(x), before);
    }
}
