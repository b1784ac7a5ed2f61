/** Promise 23: count. */
public final class Promise23Count {
    private static final Due DUE = new Due();

    public static void main(String[] args) {
        SpiralFrames x = new SpiralFrames();
        counts(x, 200, 0, 0, 0, 0, 0, 0, 0, 0, 0, 0, 0, 0);
        x.setNumber(0, 300);
        x.setNumber(1, 2);
        x.setNumber(2, 9);
        Due.type(x, "b3,3,2,2=1");
        counts(x, 300, 2, 9, 0, 0, 0, 0, 0, 0, 0, 0, 3, 10);
        x.send(false);
        counts(x, 300, 2, 9, 291, 1, 0, 0, 9, 1, 0, 0, 4, 10);
        x.fill(3, 3, 2, 2, 4);
        x.send(true);
        counts(x, 300, 2, 9, 291 + 300 - 269, 2, 0, 1, 278, 2, 4, 4, 4, 10);
        x.sendKeyed(true);
        counts(x, 300, 2, 9, 622 - 594, 3, 1, 2, 872, 0, 4, 4, 4, 10);
        x.setNumber(0, 594);
        x.send(true);
        counts(x, 594, 2, 9, 600, 4, 1, 3, 881, 1, 4, 4, 4, 10);
        x.sendKeyed(false);
        counts(x, 594, 2, 9, 600, 5, 2, 3, 1475, 0, 0, 0, 4, 10);
        x.undo();
        x.clearText();
        counts(x, 594, 2, 9, 600, 4, 1, 3, 881, 1, 4, 4, 3, 0);
        DUE.is("what -1", x.count(-1), Due.BAD_VALUE);
        DUE.is("what 13", x.count(13), Due.BAD_VALUE);
        DUE.is("extremes", x.count(Integer.MIN_VALUE), Due.BAD_VALUE);
        DUE.is("extremes", x.count(Integer.MAX_VALUE), Due.BAD_VALUE);
        DUE.end();
    }

    private static void counts(SpiralFrames x, int... wants) {
        for (int what = 0; what < 13; what++) {
            DUE.is("count(" + what + ")", x.count(what), wants[what]);
        }
    }
}
