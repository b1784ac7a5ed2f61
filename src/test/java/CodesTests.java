/** CODES. */
final class CodesTests {
    private static final String SKIPPED = "A skipped tile takes 1 bit; the receiver keeps what the screen has there.";
    private static final String MOVED =
        "A moved tile takes 2 bits and those of its place p of the spiral (from 1 on): 1 for p from 1 to 2, 3 for 3 to 8, and 5 for 9 to 24";
    private static final String TAKES =
        "the receiver takes the 16 points that are so far from the tile on the screen as it was before this frame";
    private static final String WHOLE = "A whole tile takes 66 bits; the receiver gets its 16 points.";

    private CodesTests() {
    }

    static void tests() {
        Heading h = new Heading("CODES");
        skipped(h);
        movedBits(h);
        movedPoints(h);
        whole(h);
    }

    private static void skipped(Heading h) {
        h.test(SKIPPED, "1 bit for each", due -> {
            due.is("a frame of nine", new Calls().send(false), 9);
            due.is("one of them", new Calls().wouldCode(3, 0, 2), 1);
        });
        h.test(SKIPPED, "the receiver keeps its own points, which are not the sender's", due -> {
            Calls x = new Calls();
            x.setNumber(0, 600);
            x.fill(0, 0, 4, 4, 6);
            x.send(false);
            x.fill(0, 0, 4, 4, 8);
            x.send(true);
            due.is("skipped", x.send(false), 9);
            due.is("the sender", x.point(1, 3, 3), 8);
            due.is("the receiver", x.point(2, 3, 3), 6);
        });
    }

    private static void movedBits(Heading h) {
        h.test(MOVED, "the bits of every place, told and spent", due -> {
            for (int place = 1; place <= 24; place++) {
                Calls x = new Calls();
                int spent = moveMiddle(x, place);
                due.is("the place", x.sent(0, 4), place);
                due.is("bits of the place " + place, x.spiral(place, 2), Runs.bits(place));
                int bits = 0;
                for (int tile = 0; tile < 9; tile++) {
                    int code = x.sent(0, tile);
                    bits += code == 25 ? 66 : Runs.bits(code);
                }
                due.is("bits of the frame by the place " + place, spent, bits);
            }
        });
        h.test("1 for p from 1 to 2, 3 for 3 to 8, and 5 for 9 to 24", "the last place with so many bits and the first with more", due -> {
            int[] places = {1, 2, 3, 8, 9, 24};
            int[] bits = {3, 3, 5, 5, 7, 7};
            for (int i = 0; i < places.length; i++) {
                Calls x = new Calls();
                x.setNumber(0, 600);
                Runs.drawMiddle(x, 0);
                x.send(false);
                x.shift(-Runs.PLACES[places[i]][0], -Runs.PLACES[places[i]][1]);
                due.is("the place", x.wouldCode(4, 0, 1), places[i]);
                due.is("bits of a tile by the place " + places[i], x.wouldCode(4, 0, 2), bits[i]);
            }
        });
    }

    /** The middle tile is sent whole, and then found by the place; answers what that frame spends. */
    private static int moveMiddle(Calls x, int place) {
        x.setNumber(0, 600);
        Runs.drawMiddle(x, 0);
        x.send(false);
        x.shift(-Runs.PLACES[place][0], -Runs.PLACES[place][1]);
        return x.send(false);
    }

    private static void movedPoints(Heading h) {
        h.test(TAKES, "all nine tiles at once, by every place, at both screens", due -> {
            for (int place = 1; place <= 24; place++) {
                Calls x = new Calls();
                x.setNumber(0, 600);
                Runs.drawAll(x, 0);
                x.send(false);
                x.shift(-Runs.PLACES[place][0], -Runs.PLACES[place][1]);
                x.send(false);
                for (int tile = 0; tile < 9; tile++) {
                    due.is("tile " + tile + " by the place " + place, x.sent(0, tile), Runs.isWithin(tile, place) ? place : 25);
                }
                due.is("the sender has it", x.difference(0, 1, -1), 0);
                due.is("the receiver has it", x.difference(0, 2, -1), 0);
            }
        });
        h.test(TAKES, "each screen takes its own points, as they were before the frame", due -> {
            for (int place = 1; place <= 24; place++) {
                Calls x = new Calls();
                x.setNumber(0, 600);
                Runs.drawAll(x, 0);
                x.send(false);
                Runs.drawAll(x, 1);
                x.sendKeyed(true);
                int right = Runs.PLACES[place][0];
                int down = Runs.PLACES[place][1];
                x.shift(-right, -down);
                x.send(false);
                int[] points = Told.points(x, 2);
                for (int i = 0; i < 144; i++) {
                    int column = i % 12;
                    int row = i / 12;
                    boolean isMoved = Runs.isWithin(Runs.tileOf(column, row), place);
                    boolean isDrawn = column + right >= 0 && column + right < 12 && row + down >= 0 && row + down < 12;
                    int drawn = isDrawn ? Runs.level(1, column + right, row + down) : 0;
                    due.is("place " + place + ", column " + column + ", row " + row, points[i],
                        isMoved ? Runs.level(0, column + right, row + down) : drawn);
                }
            }
        });
    }

    private static void whole(Heading h) {
        h.test(WHOLE, "66 bits", due -> {
            Calls x = new Calls();
            x.set(0, 0, 1);
            due.is("one of them", x.wouldCode(0, 0, 2), 66);
            due.is("a frame with one", x.send(false), 66 + 8);
            Calls y = new Calls();
            y.setNumber(0, 600);
            y.fill(0, 0, 12, 12, 1);
            due.is("a frame of nine", y.send(false), 594);
        });
        h.test(WHOLE, "all 16 points and no other", due -> {
            Calls x = new Calls();
            x.fill(4, 4, 4, 4, 9);
            x.set(7, 4, 3);
            x.send(false);
            int[] points = Told.points(x, 2);
            for (int i = 0; i < 144; i++) {
                boolean isInside = Runs.tileOf(i % 12, i / 12) == 4;
                due.is("point " + i, points[i], i == 7 + 4 * 12 ? 3 : isInside ? 9 : 0);
            }
        });
    }
}
