/** Promise 20: best(). */
final class Promise20Best {
    private static final String FINDS = "by which a tile of the drawing is found best on the screen of the sender";
    private static final String WITHIN = "(from 0 on, all 16 points within the screen)";
    private static final String FIRST = "with the least difference, of several the first one";

    private Promise20Best() {
    }

    private static void best(Due due, Calls x, int tile, int place, int difference) {
        due.is("place of the tile " + tile, x.best(tile, 0), place);
        due.is("difference of the tile " + tile, x.best(tile, 1), difference);
    }

    static void tests() {
        Heading h = new Heading("Promise 20");
        finds(h);
        within(h);
        first(h);
        ranges(h);
    }

    private static void finds(Heading h) {
        h.test(FINDS, "by each of the 25 places", due -> {
            for (int place = 0; place < 25; place++) {
                Calls x = new Calls();
                x.setNumber(0, 600);
                Runs.drawMiddle(x, 0);
                x.send(false);
                x.shift(-Runs.PLACES[place][0], -Runs.PLACES[place][1]);
                best(due, x, 4, place, 0);
            }
        });
        h.test(FINDS, "though nothing is the same, and the settings do not matter", due -> {
            Calls x = new Calls();
            x.setNumber(0, 600);
            Runs.drawMiddle(x, 0);
            x.send(false);
            x.shift(-1, -2);
            x.set(4, 4, x.point(0, 4, 4) > 7 ? x.point(0, 4, 4) - 5 : x.point(0, 4, 4) + 5);
            x.setNumber(1, 240);
            x.setNumber(0, 9);
            best(due, x, 4, 13, 5);
        });
        h.test(FINDS, "not on that of the receiver", due -> {
            Calls x = new Calls();
            x.fill(4, 4, 4, 4, 5);
            x.send(true);
            best(due, x, 4, 0, 0);
            x.fill(4, 4, 4, 4, 0);
            best(due, x, 4, 12, 20);
        });
        h.test("Finds the place of the spiral", "nothing is changed by it", due -> {
            Run run = x -> Runs.rich(x);
            due.are("the state", Told.state(run.then(x -> x.best(4, 0))), Told.state(run));
        });
    }

    private static void within(Heading h) {
        h.test(WITHIN, "each tile and each place: it is found where they are", due -> {
            for (int place = 1; place <= 24; place++) {
                Calls x = new Calls();
                x.setNumber(0, 600);
                Runs.drawAll(x, 0);
                x.send(false);
                x.shift(-Runs.PLACES[place][0], -Runs.PLACES[place][1]);
                for (int tile = 0; tile < 9; tile++) {
                    boolean isWithin = Runs.isWithin(tile, place);
                    int found = x.best(tile, 0);
                    due.holds("tile " + tile + ", place " + place + ": found by " + found, found == place || !isWithin);
                    due.holds("a place within", found >= 0 && found <= 24 && Runs.isWithin(tile, found));
                    due.is("the same, or not", x.best(tile, 1) == 0 ? 1 : 0, isWithin ? 1 : 0);
                }
            }
        });
        h.test(WITHIN, "points beyond it are not taken for empty ones", due -> {
            Calls x = new Calls();
            x.setNumber(0, 600);
            x.fill(8, 8, 4, 4, 1);
            best(due, x, 8, 0, 16);
            x.send(false);
            x.fill(8, 8, 4, 4, 0);
            x.fill(8, 8, 3, 3, 1);
            best(due, x, 8, 0, 7);
        });
        h.test("(from 0 on", "the place 0, though others are as near", due -> {
            for (int tile = 0; tile < 9; tile++) {
                best(due, new Calls(), tile, 0, 0);
            }
            Calls x = new Calls();
            x.fill(0, 0, 12, 12, 15);
            for (int tile = 0; tile < 9; tile++) {
                best(due, x, tile, 0, 240);
            }
        });
    }

    private static void first(Heading h) {
        h.test(FIRST, "two places, then a nearer one that comes later", due -> {
            Calls x = new Calls();
            x.setNumber(0, 600);
            x.set(4, 4, 9);
            x.send(false);
            x.fill(0, 0, 12, 12, 0);
            x.set(5, 5, 2);
            best(due, x, 4, 1, 2);
            x.set(6, 6, 9);
            best(due, x, 4, 20, 2);
        });
        h.test(FIRST, "many places that are just as near", due -> {
            Calls x = new Calls();
            x.setNumber(0, 600);
            x.fill(4, 4, 4, 4, 5);
            x.send(false);
            x.fill(4, 4, 4, 4, 4);
            best(due, x, 4, 0, 16);
            best(due, x, 1, 0, 0);
        });
    }

    private static void ranges(Heading h) {
        h.test("- `tile`: a tile", "-1, 0, 8 and 9", due -> {
            due.range("tile for its place", 0, 8, Due.UNKNOWN, tile -> new Calls().best(tile, 0));
            due.range("tile for its difference", 0, 8, Due.UNKNOWN, tile -> new Calls().best(tile, 1));
        });
        h.test("- `what`: 0 for the place, 1 for the difference", "too small, the least, the greatest, too great",
            due -> due.range("what", 0, 1, Due.BAD_VALUE, what -> new Calls().best(8, what)));
        h.test("0 for the place, 1 for the difference", "which is which", due -> {
            Calls x = new Calls();
            x.fill(0, 0, 4, 4, 3);
            due.is("the place", x.best(0, 0), 0);
            due.is("the difference", x.best(0, 1), 48);
        });
        h.test("Returns the number", "the most that a difference can be, and the least", due -> {
            Calls x = new Calls();
            x.fill(0, 0, 4, 4, 15);
            due.is("the most", x.best(0, 1), 240);
            due.is("the least", x.best(8, 1), 0);
        });
        h.test("UNKNOWN", "no such tile", due -> {
            due.is("9", new Calls().best(9, 0), Due.UNKNOWN);
            due.is("-1", new Calls().best(-1, 1), Due.UNKNOWN);
        });
        h.test("BAD_VALUE", "no such what", due -> {
            due.is("2", new Calls().best(0, 2), Due.BAD_VALUE);
            due.is("-1", new Calls().best(8, -1), Due.BAD_VALUE);
        });
    }
}
