/** Promise 14: point(). */
final class Promise14Point {
    private Promise14Point() {
    }

    /** Three pictures that differ at every point that is drawn. */
    private static Calls three() {
        Calls x = new Calls();
        x.setNumber(0, 600);
        x.fill(1, 2, 3, 4, 4);
        x.send(false);
        x.fill(1, 2, 3, 4, 5);
        x.send(true);
        x.fill(1, 2, 3, 4, 6);
        return x;
    }

    static void tests() {
        Heading h = new Heading("Promise 14");
        h.test("- `picture`: 0 for the drawing, 1 for the screen of the sender, 2 for that of the receiver", "each of them", due -> {
            due.is("the drawing", three().point(0, 1, 2), 6);
            due.is("the screen of the sender", three().point(1, 1, 2), 5);
            due.is("that of the receiver", three().point(2, 1, 2), 4);
        });
        h.test("0 for the drawing, 1 for the screen of the sender, 2 for that of the receiver", "too small, too great",
            due -> due.range("picture", 0, 2, Due.UNKNOWN, picture -> new Calls().point(picture, 0, 0)));
        for (int picture = 0; picture < 3; picture++) {
            int of = picture;
            h.test("- `column`: 0 to 11", "too small, the least, the greatest, too great, in the picture " + picture,
                due -> due.range("column", 0, 11, Due.UNKNOWN, column -> new Calls().point(of, column, 3)));
            h.test("- `row`: 0 to 11", "too small, the least, the greatest, too great, in the picture " + picture,
                due -> due.range("row", 0, 11, Due.UNKNOWN, row -> new Calls().point(of, 3, row)));
        }
        h.test("Returns the level", "of every point of each picture", due -> {
            for (int picture = 0; picture < 3; picture++) {
                int[] points = Told.points(three(), picture);
                for (int i = 0; i < 144; i++) {
                    boolean isInside = i % 12 >= 1 && i % 12 <= 3 && i / 12 >= 2 && i / 12 <= 5;
                    due.is("picture " + picture + ", point " + i, points[i], isInside ? 6 - picture : 0);
                }
            }
        });
        h.test("UNKNOWN", "one of the three, or all", due -> {
            due.is("picture", three().point(-1, 0, 0), Due.UNKNOWN);
            due.is("column", three().point(0, 12, 0), Due.UNKNOWN);
            due.is("row", three().point(0, 0, -1), Due.UNKNOWN);
            due.is("all", three().point(3, 12, 12), Due.UNKNOWN);
            due.is("extremes", three().point(Integer.MIN_VALUE, Integer.MAX_VALUE, Integer.MIN_VALUE), Due.UNKNOWN);
        });
    }
}
