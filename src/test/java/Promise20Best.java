/** Promise 20: best. */
public final class Promise20Best {
    private static final Due DUE = new Due();

    public static void main(String[] args) {
        SpiralFrames x = new SpiralFrames();
        best(x, 0, 0, 0);
        x.setNumber(0, 600);
        for (int i = 0; i < 16; i++) {
            x.set(4 + i % 4, 4 + i / 4, 1 + i % 15);
        }
        best(x, 4, 0, 121);
        x.send(false);
        best(x, 4, 0, 0);
        x.shift(-1, -2);
        best(x, 4, 13, 0);
        x.set(4, 4, 15);
        best(x, 4, 13, 5);
        best(x, 8, 0, 0);
        x.setNumber(1, 240);
        best(x, 4, 13, 5);
        firstOfSeveral();
        withinTheScreen();
        theScreenOfTheSender();
        int[] told = Due.told(x);
        DUE.is("tile -1", x.best(-1, 0), Due.UNKNOWN);
        DUE.is("tile 9", x.best(9, 0), Due.UNKNOWN);
        DUE.is("what -1", x.best(0, -1), Due.BAD_VALUE);
        DUE.is("what 2", x.best(8, 2), Due.BAD_VALUE);
        DUE.is("no tile ahead of a bad what", x.best(9, 2), Due.UNKNOWN);
        DUE.are("nothing is changed", Due.told(x), told);
        DUE.end();
    }

    private static void best(SpiralFrames x, int tile, int place, int difference) {
        DUE.is("place of tile " + tile, x.best(tile, 0), place);
        DUE.is("difference of tile " + tile, x.best(tile, 1), difference);
    }

    private static void firstOfSeveral() {
        SpiralFrames x = new SpiralFrames();
        x.setNumber(0, 600);
        x.set(4, 4, 9);
        x.send(false);
        x.fill(0, 0, 12, 12, 0);
        x.set(5, 5, 2);
        best(x, 4, 1, 2);
    }

    private static void theScreenOfTheSender() {
        SpiralFrames x = new SpiralFrames();
        x.fill(4, 4, 4, 4, 5);
        x.send(true);
        best(x, 4, 0, 0);
        x.fill(4, 4, 4, 4, 0);
        best(x, 4, 12, 20);
    }

    private static void withinTheScreen() {
        SpiralFrames x = new SpiralFrames();
        x.fill(8, 8, 4, 4, 1);
        best(x, 8, 0, 16);
        x.setNumber(0, 600);
        x.send(false);
        x.fill(8, 8, 4, 4, 0);
        x.fill(8, 8, 3, 3, 1);
        best(x, 8, 0, 7);
        x.fill(8, 8, 4, 4, 0);
        best(x, 8, 20, 4);
    }
}
