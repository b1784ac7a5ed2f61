/** Promise 3: fill(). */
final class Promise03Fill {
    private static final String LEFT_OUT = "columns beyond the drawing are left out";

    private Promise03Fill() {
    }

    static void tests() {
        Heading h = new Heading("Promise 3");
        fills(h);
        ranges(h);
        beyond(h);
        answers(h);
    }

    private static void fills(Heading h) {
        h.test("Fills a box of the drawing.", "its points and no other, on no screen", due -> {
            Run run = x -> x.fill(2, 3, 4, 2, 9);
            int[] points = Told.points(run.made(), 0);
            for (int i = 0; i < 144; i++) {
                boolean isInside = i % 12 >= 2 && i % 12 < 6 && i / 12 >= 3 && i / 12 < 5;
                due.is("column " + i % 12 + ", row " + i / 12, points[i], isInside ? 9 : 0);
            }
            due.are("the screen of the sender", Told.points(run.made(), 1), new int[144]);
            due.are("the screen of the receiver", Told.points(run.made(), 2), new int[144]);
        });
        h.test("This is an act.", "one, also where no point is different", due -> {
            Calls x = new Calls();
            x.fill(2, 3, 4, 2, 9);
            due.is("states", x.count(11), 1);
            x.fill(2, 3, 4, 2, 9);
            due.is("states", x.count(11), 2);
            x.undo();
            due.is("undo()", x.undo(), 0);
            due.is("the drawing", x.difference(0, 1, -1), 0);
        });
    }

    private static void ranges(Heading h) {
        h.test("- `column`: 0 to 11: its first column", "too small, the least, the greatest, too great", due -> {
            due.range("column", 0, 11, Due.UNKNOWN, column -> new Calls().fill(column, 3, 1, 1, 1));
            for (int column = 0; column < 12; column++) {
                Calls x = new Calls();
                x.fill(column, 3, 1, 1, 1);
                due.is("the column " + column, x.point(0, column, 3), 1);
            }
        });
        h.test("- `row`: 0 to 11: its first row", "too small, the least, the greatest, too great", due -> {
            due.range("row", 0, 11, Due.UNKNOWN, row -> new Calls().fill(3, row, 1, 1, 1));
            for (int row = 0; row < 12; row++) {
                Calls x = new Calls();
                x.fill(3, row, 1, 1, 1);
                due.is("the row " + row, x.point(0, 3, row), 1);
            }
        });
        h.test("- `columns`: 1 to 12", "too few, the least, the most, too many", due -> {
            due.range("columns", 1, 12, Due.BAD_VALUE, columns -> new Calls().fill(0, 0, columns, 1, 1));
            due.range("columns at the right", 1, 12, Due.BAD_VALUE, columns -> new Calls().fill(11, 0, columns, 1, 1));
            for (int columns = 1; columns <= 12; columns++) {
                due.is("columns " + columns, new Calls().fill(0, 0, columns, 1, 1), columns);
            }
        });
        h.test("- `rows`: 1 to 12, likewise", "too few, the least, the most, too many", due -> {
            due.range("rows", 1, 12, Due.BAD_VALUE, rows -> new Calls().fill(0, 0, 1, rows, 1));
            due.range("rows at the end", 1, 12, Due.BAD_VALUE, rows -> new Calls().fill(0, 11, 1, rows, 1));
            for (int rows = 1; rows <= 12; rows++) {
                due.is("rows " + rows, new Calls().fill(0, 0, 1, rows, 1), rows);
            }
        });
        h.test("- `level`: 0 to 15", "too small, the least, the greatest, too great",
            due -> due.range("level", 0, 15, Due.BAD_VALUE, level -> {
                Calls x = new Calls();
                x.fill(0, 0, 12, 12, 7);
                int answer = x.fill(3, 3, 2, 2, level);
                return answer < 0 ? answer : x.point(0, 4, 4) == level ? 0 : Due.FULL;
            }));
    }

    private static void beyond(Heading h) {
        h.test(LEFT_OUT, "every first column with every number of them", due -> {
            for (int column = 0; column < 12; column++) {
                for (int columns = 1; columns <= 12; columns++) {
                    Calls x = new Calls();
                    due.is(columns + " from " + column, x.fill(column, 5, columns, 2, 1), 2 * Math.min(columns, 12 - column));
                    due.is("the column ahead is left", x.point(0, 0, 6), column == 0 ? 1 : 0);
                    due.is("the row behind is left", x.point(0, 0, 7), 0);
                }
            }
        });
        h.test("1 to 12, likewise", "every first row with every number of them", due -> {
            for (int row = 0; row < 12; row++) {
                for (int rows = 1; rows <= 12; rows++) {
                    Calls x = new Calls();
                    due.is(rows + " from " + row, x.fill(5, row, 2, rows, 1), 2 * Math.min(rows, 12 - row));
                    due.is("the row ahead is left", x.point(0, 6, 0), row == 0 ? 1 : 0);
                    due.is("the column behind is left", x.point(0, 7, 0), 0);
                }
            }
        });
        h.test(LEFT_OUT, "a box that begins at the last point", due -> {
            Calls x = new Calls();
            due.is("12 columns and rows", x.fill(11, 11, 12, 12, 15), 1);
            due.is("that point", x.point(0, 11, 11), 15);
            due.is("all points", x.difference(0, 1, -1), 15);
        });
    }

    private static void answers(Heading h) {
        h.test("Returns how many points are different then", "none, some, all", due -> {
            Calls x = new Calls();
            due.is("none", x.fill(0, 0, 12, 12, 0), 0);
            due.is("all", x.fill(0, 0, 12, 12, 3), 144);
            due.is("none of them again", x.fill(0, 0, 12, 12, 3), 0);
            x.fill(2, 2, 2, 2, 4);
            due.is("those that were not so", x.fill(1, 1, 4, 4, 4), 12);
            due.is("level 0 as well", x.fill(0, 0, 2, 2, 0), 4);
            due.is("one", x.fill(0, 0, 3, 1, 0), 1);
        });
        h.test("UNKNOWN", "no such point", due -> {
            due.is("beyond the last column", new Calls().fill(12, 0, 1, 1, 1), Due.UNKNOWN);
            due.is("beyond the last row", new Calls().fill(0, 12, 1, 1, 1), Due.UNKNOWN);
        });
        h.test("BAD_VALUE", "one of the others", due -> {
            due.is("columns", new Calls().fill(0, 0, 0, 1, 1), Due.BAD_VALUE);
            due.is("rows", new Calls().fill(0, 0, 1, 13, 1), Due.BAD_VALUE);
            due.is("level", new Calls().fill(0, 0, 1, 1, 16), Due.BAD_VALUE);
            due.is("as many as an int has", new Calls().fill(11, 11, Integer.MAX_VALUE, Integer.MAX_VALUE, 1), Due.BAD_VALUE);
        });
    }
}
