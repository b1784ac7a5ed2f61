/** Promise 15: difference. */
public final class Promise15Difference {
    public static void main(String[] args) {
        Due due = new Due();
        SpiralFrames x = new SpiralFrames();
        x.setNumber(0, 600);
        x.fill(3, 3, 2, 2, 10);
        x.send(false);
        x.set(3, 3, 4);
        x.set(4, 4, 15);
        x.send(true);
        x.set(8, 11, 1);
        int[] wants = {6, 0, 0, 0, 5, 0, 0, 0, 0};
        for (int tile = 0; tile < 9; tile++) {
            due.is("the screens at tile " + tile, x.difference(1, 2, tile), wants[tile]);
            due.is("either way at tile " + tile, x.difference(2, 1, tile), wants[tile]);
            due.is("the same at tile " + tile, x.difference(2, 2, tile), 0);
        }
        due.is("the screens", x.difference(1, 2, -1), 11);
        due.is("either way", x.difference(2, 1, -1), 11);
        due.is("the drawing and the sender", x.difference(0, 1, -1), 1);
        due.is("at the last tile", x.difference(0, 1, 8), 1);
        due.is("the drawing and the receiver", x.difference(0, 2, -1), 12);
        due.is("the drawing and itself", x.difference(0, 0, -1), 0);
        x.undo();
        x.fill(0, 0, 12, 12, 0);
        x.setNumber(0, 599);
        due.is("the most of a tile", most(0), 240);
        due.is("the most of all", most(-1), 9 * 240);
        due.is("picture -1", x.difference(-1, 0, 0), Due.UNKNOWN);
        due.is("picture 3", x.difference(3, 0, 0), Due.UNKNOWN);
        due.is("other -1", x.difference(0, -1, 0), Due.UNKNOWN);
        due.is("other 3", x.difference(0, 3, -1), Due.UNKNOWN);
        due.is("tile -2", x.difference(0, 0, -2), Due.UNKNOWN);
        due.is("tile 9", x.difference(0, 0, 9), Due.UNKNOWN);
        due.end();
    }

    private static int most(int tile) {
        SpiralFrames x = new SpiralFrames();
        x.fill(0, 0, 12, 12, 15);
        return x.difference(2, 0, tile);
    }
}
