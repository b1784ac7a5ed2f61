/** Promise 22: sent. */
public final class Promise22Sent {
    private static final Due DUE = new Due();

    public static void main(String[] args) {
        SpiralFrames x = new SpiralFrames();
        DUE.is("no frame", x.sent(0, 0), Due.NONE);
        x.setNumber(0, 600);
        x.fill(4, 4, 4, 4, 5);
        x.send(false);
        x.shift(-1, -1);
        x.send(true);
        x.sendKeyed(true);
        x.send(false);
        sent(x, 3, 0, 0, 0, 0, 25, 0, 0, 0, 0);
        sent(x, 2, 2, 2, 0, 2, 2, 0, 0, 0, 0);
        sent(x, 1, 25, 25, 25, 25, 25, 25, 25, 25, 25);
        sent(x, 0, 0, 0, 0, 0, 0, 0, 0, 0, 0);
        DUE.is("four frames", x.sent(4, 0), Due.NONE);
        for (int i = 0; i < 5; i++) {
            x.send(false);
        }
        DUE.is("the oldest of eight", x.sent(7, 4), 2);
        DUE.is("not more", x.sent(8, 4), Due.NONE);
        DUE.is("back -1", x.sent(-1, 0), Due.BAD_VALUE);
        DUE.is("tile -1", x.sent(0, -1), Due.UNKNOWN);
        DUE.is("tile 9", x.sent(0, 9), Due.UNKNOWN);
        DUE.is("a bad back ahead of no tile", x.sent(-1, 9), Due.BAD_VALUE);
        DUE.is("no tile ahead of no frame", x.sent(8, 9), Due.UNKNOWN);
        DUE.is("far back", x.sent(Integer.MAX_VALUE, 8), Due.NONE);
        DUE.end();
    }

    private static void sent(SpiralFrames x, int back, int... wants) {
        for (int tile = 0; tile < 9; tile++) {
            DUE.is("sent(" + back + ", " + tile + ")", x.sent(back, tile), wants[tile]);
        }
    }
}
