/** Promise 17: wouldCode. */
public final class Promise17WouldCode {
    private static final Due DUE = new Due();

    public static void main(String[] args) {
        SpiralFrames x = new SpiralFrames();
        code(x, 4, 0, 0, 0, 1, 0);
        x.setNumber(0, 600);
        x.fill(4, 4, 4, 4, 5);
        code(x, 4, 0, 2, Due.NONE, 66, 0);
        code(x, 4, 79, 2, Due.NONE, 66, 0);
        code(x, 4, 80, 0, 0, 1, 80);
        code(x, 4, 240, 0, 0, 1, 80);
        x.send(false);
        code(x, 4, 0, 0, 0, 1, 0);
        x.shift(-2, -1);
        code(x, 4, 0, 1, 11, 7, 0);
        code(x, 4, 9, 1, 11, 7, 0);
        code(x, 4, 14, 1, 10, 7, 10);
        code(x, 4, 15, 1, 2, 3, 15);
        code(x, 4, 49, 1, 1, 3, 30);
        code(x, 4, 50, 0, 0, 1, 50);
        code(x, 3, 0, 1, 11, 7, 0);
        code(x, 3, 15, 1, 2, 3, 15);
        code(x, 3, 20, 1, 1, 3, 20);
        code(x, 0, 0, 1, 11, 7, 0);
        code(x, 8, 0, 0, 0, 1, 0);
        edges();
        theScreenOfTheSender();
        wrong(x);
        DUE.end();
    }

    private static void code(SpiralFrames x, int tile, int tolerance, int... wants) {
        for (int what = 0; what < 4; what++) {
            DUE.is("wouldCode(" + tile + ", " + tolerance + ", " + what + ")", x.wouldCode(tile, tolerance, what), wants[what]);
        }
    }

    /** A place at which a point is beyond the screen is not taken, though all that can be seen there is the same. */
    private static void edges() {
        SpiralFrames x = new SpiralFrames();
        x.setNumber(0, 600);
        x.fill(8, 8, 4, 4, 5);
        x.send(false);
        x.shift(1, 1);
        DUE.is("nothing comes from beyond", x.wouldCode(8, 0, 1), 6);
        SpiralFrames y = new SpiralFrames();
        y.setNumber(0, 600);
        y.fill(0, 0, 4, 4, 5);
        y.send(false);
        y.shift(-1, 0);
        DUE.is("a tile at the left edge", y.wouldCode(0, 0, 1), 1);
        y.fill(0, 0, 4, 4, 0);
        y.fill(1, 0, 3, 4, 5);
        DUE.is("is not moved by what is beyond it", y.wouldCode(0, 0, 1), Due.NONE);
    }

    private static void theScreenOfTheSender() {
        SpiralFrames x = new SpiralFrames();
        x.fill(0, 0, 4, 4, 5);
        x.send(true);
        code(x, 0, 0, 0, 0, 1, 0);
        x.set(0, 0, 6);
        code(x, 0, 1, 0, 0, 1, 1);
    }

    private static void wrong(SpiralFrames x) {
        int[] told = Due.told(x);
        DUE.is("tile -1", x.wouldCode(-1, 0, 0), Due.UNKNOWN);
        DUE.is("tile 9", x.wouldCode(9, 0, 0), Due.UNKNOWN);
        DUE.is("tolerance -1", x.wouldCode(0, -1, 0), Due.BAD_VALUE);
        DUE.is("tolerance 241", x.wouldCode(0, 241, 0), Due.BAD_VALUE);
        DUE.is("what -1", x.wouldCode(0, 0, -1), Due.BAD_VALUE);
        DUE.is("what 4", x.wouldCode(0, 0, 4), Due.BAD_VALUE);
        DUE.is("no tile ahead of bad ones", x.wouldCode(9, 241, 4), Due.UNKNOWN);
        DUE.are("nothing is changed", Due.told(x), told);
    }
}
