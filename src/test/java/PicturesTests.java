import java.util.Arrays;

/** PICTURES. */
final class PicturesTests {
    private static final String POINTS = "A picture has 12 rows and 12 columns of points, with levels from 0 to 15.";
    private static final String TILES =
        "It is cut into 9 tiles of 4 rows and 4 columns, numbered from 0, row by row from the upper left.";
    private static final String THREE =
        "There are three pictures: the drawing, the screen of the sender, and that of the receiver; at first all their points are 0.";
    private static final String OF_TILES =
        "The difference of two tiles is the sum, over their 16 points, of how far the levels are apart.";
    private static final String OF_PICTURES = "The difference of two pictures is that of all their tiles.";

    private PicturesTests() {
    }

    static void tests() {
        Heading h = new Heading("PICTURES");
        points(h);
        tiles(h);
        three(h);
        differences(h);
    }

    private static void points(Heading h) {
        h.test(POINTS, "each of the 144 points is one of its own", due -> {
            Run drawn = x -> Runs.drawAll(x, 0);
            int[] points = Told.points(drawn.made(), 0);
            for (int i = 0; i < 144; i++) {
                due.is("column " + i % 12 + ", row " + i / 12, points[i], Runs.level(0, i % 12, i / 12));
            }
        });
        h.test(POINTS, "there is no 13th row or column in any picture", due -> {
            for (int picture = 0; picture < 3; picture++) {
                due.is("the last point", new Calls().point(picture, 11, 11), 0);
                due.is("a 13th column", new Calls().point(picture, 12, 0), Due.UNKNOWN);
                due.is("a 13th row", new Calls().point(picture, 0, 12), Due.UNKNOWN);
            }
        });
        h.test(POINTS, "every level from 0 to 15 is held, in every picture, and no other", due -> {
            for (int level = 0; level <= 15; level++) {
                Calls x = new Calls();
                x.setNumber(0, 600);
                x.fill(0, 0, 12, 12, level);
                x.send(false);
                for (int picture = 0; picture < 3; picture++) {
                    due.is("the level in the picture " + picture, x.point(picture, 11, 0), level);
                }
            }
            due.is("16", new Calls().set(0, 0, 16), Due.BAD_VALUE);
            due.is("-1", new Calls().set(0, 0, -1), Due.BAD_VALUE);
        });
    }

    private static void tiles(Heading h) {
        h.test(TILES, "each of the 144 points is in one tile, which is the right one", due -> {
            for (int i = 0; i < 144; i++) {
                Calls x = new Calls();
                x.set(i % 12, i / 12, 1);
                for (int tile = 0; tile < 9; tile++) {
                    due.is("column " + i % 12 + ", row " + i / 12 + ", tile " + tile, x.difference(0, 1, tile),
                        tile == Runs.tileOf(i % 12, i / 12) ? 1 : 0);
                }
            }
        });
        h.test(TILES, "no tile ahead of 0 or behind 8, wherever a tile is told", due -> {
            Calls x = new Calls();
            x.send(false);
            for (int tile : new int[] {-2, -1, 9, 10}) {
                due.is("wouldCode", x.wouldCode(tile, 0, 0), Due.UNKNOWN);
                due.is("best", x.best(tile, 0), Due.UNKNOWN);
                due.is("sent", x.sent(0, tile), Due.UNKNOWN);
            }
            due.is("difference(0, 0, 9)", x.difference(0, 0, 9), Due.UNKNOWN);
            due.is("difference(0, 0, -2)", x.difference(0, 0, -2), Due.UNKNOWN);
        });
    }

    private static void three(Heading h) {
        h.test(THREE, "which of them is which", due -> {
            Calls x = new Calls();
            x.setNumber(0, 600);
            x.set(1, 10, 4);
            x.send(false);
            x.set(1, 10, 5);
            x.send(true);
            x.set(1, 10, 6);
            due.is("the drawing", x.point(0, 1, 10), 6);
            due.is("the screen of the sender", x.point(1, 1, 10), 5);
            due.is("that of the receiver", x.point(2, 1, 10), 4);
        });
        h.test(THREE, "no picture ahead of 0 or behind 2", due -> {
            for (int picture : new int[] {-1, 3}) {
                due.is("point", new Calls().point(picture, 0, 0), Due.UNKNOWN);
                due.is("difference", new Calls().difference(picture, 0, 0), Due.UNKNOWN);
                due.is("difference", new Calls().difference(0, picture, 0), Due.UNKNOWN);
            }
        });
        h.test("at first all their points are 0", "in each of them", due -> {
            for (int picture = 0; picture < 3; picture++) {
                due.are("points of the picture " + picture, Told.points(new Calls(), picture), new int[144]);
            }
        });
    }

    private static void differences(Heading h) {
        h.test(OF_TILES, "points that are lower and points that are higher do not make up for each other", due -> {
            Calls x = new Calls();
            x.setNumber(0, 600);
            x.fill(4, 4, 4, 4, 7);
            x.send(false);
            x.set(4, 4, 0);
            x.set(7, 7, 15);
            due.is("7 lower and 8 higher", x.difference(0, 1, 4), 15);
            due.is("told the other way round", x.difference(1, 0, 4), 15);
        });
        h.test(OF_TILES, "all 16 points, and none beyond them", due -> {
            for (int i = 0; i < 144; i++) {
                Calls x = new Calls();
                x.set(i % 12, i / 12, 15);
                due.is("tile 4 with column " + i % 12 + ", row " + i / 12, x.difference(0, 2, 4),
                    i % 12 >= 4 && i % 12 <= 7 && i / 12 >= 4 && i / 12 <= 7 ? 15 : 0);
            }
        });
        h.test(OF_TILES, "from 0 to 240", due -> {
            Calls x = new Calls();
            x.fill(8, 8, 4, 4, 15);
            due.is("the most", x.difference(0, 1, 8), 240);
            due.is("the least", x.difference(0, 1, 7), 0);
            due.is("of a tile and itself", x.difference(0, 0, 8), 0);
        });
        h.test(OF_PICTURES, "the sum over nine tiles", due -> {
            Run drawn = x -> Runs.drawAll(x, 3);
            int[] points = Told.points(drawn.made(), 0);
            Calls x = drawn.made();
            int sum = 0;
            for (int tile = 0; tile < 9; tile++) {
                sum += x.difference(0, 1, tile);
            }
            due.is("the tiles", sum, Arrays.stream(points).sum());
            due.is("the pictures", x.difference(0, 1, -1), sum);
        });
        h.test(OF_PICTURES, "from 0 to 2160", due -> {
            Calls x = new Calls();
            due.is("empty ones", x.difference(0, 2, -1), 0);
            x.fill(0, 0, 12, 12, 15);
            due.is("the most", x.difference(2, 0, -1), 2160);
            due.is("of a picture and itself", x.difference(0, 0, -1), 0);
        });
    }
}
