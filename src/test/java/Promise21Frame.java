/** Promise 21: frame. */
public final class Promise21Frame {
    private static final Due DUE = new Due();

    public static void main(String[] args) {
        SpiralFrames x = new SpiralFrames();
        DUE.is("no frame", x.frame(0, 0), Due.NONE);
        x.setNumber(0, 600);
        x.fill(4, 4, 4, 4, 5);
        x.send(false);
        x.shift(-1, -1);
        x.set(11, 11, 2);
        x.setNumber(1, 3);
        x.send(true);
        x.sendKeyed(false);
        frame(x, 2, 74, 0, 0, 0, 8, 0, 1, 0);
        frame(x, 1, 9 - 4 + 3 * 4, 3, 0, 1, 5, 4, 0, 2);
        frame(x, 0, 594, Due.NONE, 1, 0, 0, 0, 9, 0);
        DUE.is("the first frame is the last one told", x.frame(3, 0), Due.NONE);
        for (int i = 0; i < 5; i++) {
            x.send(false);
        }
        DUE.is("eight frames are known", x.frame(7, 0), 74);
        DUE.is("not more", x.frame(8, 0), Due.NONE);
        x.send(false);
        DUE.is("the oldest is not known any more", x.frame(7, 3), 1);
        DUE.is("not more", x.frame(8, 0), Due.NONE);
        x.set(0, 0, 1);
        DUE.is("the difference is that behind the frame", x.frame(0, 7), 0);
        DUE.is("back -1", x.frame(-1, 0), Due.BAD_VALUE);
        DUE.is("what -1", x.frame(0, -1), Due.BAD_VALUE);
        DUE.is("what 8", x.frame(0, 8), Due.BAD_VALUE);
        DUE.is("what 8 of no frame", x.frame(8, 8), Due.BAD_VALUE);
        DUE.is("far back", x.frame(Integer.MAX_VALUE, 7), Due.NONE);
        DUE.is("far ahead", x.frame(Integer.MIN_VALUE, 7), Due.BAD_VALUE);
        DUE.end();
    }

    private static void frame(SpiralFrames x, int back, int... wants) {
        for (int what = 0; what < 8; what++) {
            DUE.is("frame(" + back + ", " + what + ")", x.frame(back, what), wants[what]);
        }
    }
}
