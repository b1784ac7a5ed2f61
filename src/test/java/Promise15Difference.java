/** Promise 15: difference(). */
final class Promise15Difference {
    private Promise15Difference() {
    }

    /** The sender is 6 and 5 away from the receiver, the drawing 1 from the sender. */
    private static Calls three() {
        Calls x = new Calls();
        x.setNumber(0, 600);
        x.fill(3, 3, 2, 2, 10);
        x.send(false);
        x.set(3, 3, 4);
        x.set(4, 4, 15);
        x.send(true);
        x.set(8, 11, 1);
        return x;
    }

    static void tests() {
        Heading h = new Heading("Promise 15");
        h.test("- `picture`: 0 to 2", "too small, the least, the greatest, too great", due -> {
            due.range("picture", 0, 2, Due.UNKNOWN, picture -> three().difference(picture, 0, 0));
            due.range("picture, of the whole", 0, 2, Due.UNKNOWN, picture -> three().difference(picture, 1, -1));
        });
        h.test("- `other`: 0 to 2", "too small, the least, the greatest, too great", due -> {
            due.range("other", 0, 2, Due.UNKNOWN, other -> three().difference(0, other, 0));
            due.range("other, of the whole", 0, 2, Due.UNKNOWN, other -> three().difference(1, other, -1));
        });
        h.test("- `tile`: a tile, or -1 for the whole pictures", "-2, -1, 0, 8 and 9",
            due -> due.range("tile", -1, 8, Due.UNKNOWN, tile -> three().difference(0, 2, tile)));
        h.test("-1 for the whole pictures", "the sum of all their tiles", due -> {
            due.is("the screens", three().difference(1, 2, -1), 11);
            due.is("the drawing and the sender", three().difference(0, 1, -1), 1);
            due.is("the drawing and the receiver", three().difference(0, 2, -1), 12);
        });
        h.test("Returns their difference", "of any two pictures, either way round", due -> {
            int[][] wants = {{0, 1, 12}, {1, 0, 11}, {12, 11, 0}};
            for (int picture = 0; picture < 3; picture++) {
                for (int other = 0; other < 3; other++) {
                    due.is("of " + picture + " and " + other, three().difference(picture, other, -1), wants[picture][other]);
                }
            }
        });
        h.test("Returns their difference", "at each tile", due -> {
            int[] wants = {6, 0, 0, 0, 5, 0, 0, 0, 1};
            for (int tile = 0; tile < 9; tile++) {
                due.is("at the tile " + tile, three().difference(0, 2, tile), wants[tile]);
                due.is("the other way round at the tile " + tile, three().difference(2, 0, tile), wants[tile]);
                due.is("of a picture and itself", three().difference(1, 1, tile), 0);
            }
        });
        h.test("Returns their difference", "the most of a tile and of all", due -> {
            Calls x = new Calls();
            x.fill(0, 0, 12, 12, 15);
            due.is("of a tile", x.difference(2, 0, 0), 240);
            due.is("of all", x.difference(0, 2, -1), 2160);
        });
        h.test("UNKNOWN", "one of the three, or all", due -> {
            due.is("picture", three().difference(3, 0, 0), Due.UNKNOWN);
            due.is("other", three().difference(0, -1, -1), Due.UNKNOWN);
            due.is("tile", three().difference(0, 0, -2), Due.UNKNOWN);
            due.is("all", three().difference(Integer.MAX_VALUE, Integer.MIN_VALUE, Integer.MIN_VALUE), Due.UNKNOWN);
        });
    }
}
