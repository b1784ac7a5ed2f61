/** Promise 4: shift(). */
final class Promise04Shift {
    private static final String MOVES = "Moves the whole drawing";
    private static final String COME_IN = "points that come in are 0";

    private Promise04Shift() {
    }

    static void tests() {
        Heading h = new Heading("Promise 4");
        moves(h);
        ranges(h);
        answers(h);
    }

    private static void moves(Heading h) {
        h.test(MOVES, "every step from -11 to 11 in both ways", due -> {
            for (int columns = -11; columns <= 11; columns++) {
                for (int rows = -11; rows <= 11; rows++) {
                    moved(due, columns, rows);
                }
            }
        });
        h.test(MOVES, "no screen", due -> {
            Run run = x -> {
                x.fill(4, 4, 4, 4, 5);
                x.send(false);
            };
            Run moved = run.then(x -> x.shift(3, 3));
            due.are("the screen of the sender", Told.points(moved.made(), 1), Told.points(run.made(), 1));
            due.are("the screen of the receiver", Told.points(moved.made(), 2), Told.points(run.made(), 2));
        });
        h.test(COME_IN, "at each side, and not those that went out at the other", due -> {
            int[][] steps = {{1, 0}, {-1, 0}, {0, 1}, {0, -1}, {11, 0}, {-11, 0}, {0, 11}, {0, -11}, {11, -11}};
            for (int[] step : steps) {
                Calls x = new Calls();
                x.fill(0, 0, 12, 12, 15);
                int stay = (12 - Math.abs(step[0])) * (12 - Math.abs(step[1]));
                due.is("different", x.shift(step[0], step[1]), 144 - stay);
                due.is("what stays", x.difference(0, 1, -1), 15 * stay);
                due.is("and once more", x.shift(-step[0], -step[1]), 2 * Math.min(stay, 144 - stay));
            }
        });
        h.test("This is an act.", "one, also where nothing moves", due -> {
            Calls x = new Calls();
            x.set(4, 4, 4);
            x.shift(1, 1);
            due.is("states", x.count(11), 2);
            x.shift(0, 0);
            due.is("states", x.count(11), 3);
            x.undo();
            x.undo();
            due.is("the point is back", x.point(0, 4, 4), 4);
        });
    }

    /** 16 points in the middle, of which some leave the drawing by a long step. */
    private static void moved(Due due, int columns, int rows) {
        Calls x = new Calls();
        Runs.drawMiddle(x, 0);
        x.shift(columns, rows);
        int[] points = Told.points(x, 0);
        for (int i = 0; i < 144; i++) {
            int column = i % 12 - columns - 4;
            int row = i / 12 - rows - 4;
            boolean isDrawn = column >= 0 && column < 4 && row >= 0 && row < 4;
            due.is("by " + columns + ", " + rows + " point " + i, points[i], isDrawn ? Runs.level(0, column, row) : 0);
        }
    }

    private static void ranges(Heading h) {
        h.test("- `columns`: -11 to 11: to the right", "too small, the least, the greatest, too great", due -> {
            due.range("columns", -11, 11, Due.BAD_VALUE, columns -> new Calls().shift(columns, 0));
            Calls x = new Calls();
            x.set(0, 6, 1);
            x.shift(11, 0);
            due.is("11 to the right", x.point(0, 11, 6), 1);
            x.shift(-11, 0);
            due.is("11 to the left", x.point(0, 0, 6), 1);
        });
        h.test("- `rows`: -11 to 11: down", "too small, the least, the greatest, too great", due -> {
            due.range("rows", -11, 11, Due.BAD_VALUE, rows -> new Calls().shift(0, rows));
            Calls x = new Calls();
            x.set(6, 0, 1);
            x.shift(0, 11);
            due.is("11 down", x.point(0, 6, 11), 1);
            x.shift(0, -11);
            due.is("11 up", x.point(0, 6, 0), 1);
        });
    }

    private static void answers(Heading h) {
        h.test("Returns how many points are different then", "none, some, all", due -> {
            Calls x = new Calls();
            due.is("an empty one", x.shift(3, 3), 0);
            x.set(2, 5, 6);
            due.is("one point", x.shift(1, 0), 2);
            due.is("by nothing", x.shift(0, 0), 0);
            x.fill(0, 0, 12, 12, 5);
            due.is("one level: those that come in", x.shift(-2, 1), 12 + 2 * 11);
            Calls y = new Calls();
            for (int column = 0; column < 12; column++) {
                y.fill(column, 0, 1, 12, 1 + column % 2);
            }
            due.is("all", y.shift(1, 0), 144);
        });
        h.test("BAD_VALUE", "either, or both", due -> {
            due.is("columns", new Calls().shift(12, 0), Due.BAD_VALUE);
            due.is("rows", new Calls().shift(0, -12), Due.BAD_VALUE);
            due.is("both", new Calls().shift(Integer.MIN_VALUE, Integer.MAX_VALUE), Due.BAD_VALUE);
        });
    }
}
