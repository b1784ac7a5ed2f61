/** Promise 2: set(). */
final class Promise02Set {
    private Promise02Set() {
    }

    static void tests() {
        Heading h = new Heading("Promise 2");
        h.test("Sets a point of the drawing.", "this one alone, on no screen", due -> {
            int[] want = new int[144];
            want[11 + 3 * 12] = 7;
            Run run = x -> x.set(11, 3, 7);
            due.are("the drawing", Told.points(run.made(), 0), want);
            due.are("the screen of the sender", Told.points(run.made(), 1), new int[144]);
            due.are("the screen of the receiver", Told.points(run.made(), 2), new int[144]);
        });
        h.test("This is an act.", "it is recorded and undone", due -> {
            Calls x = new Calls();
            x.set(4, 5, 6);
            due.is("states", x.count(11), 1);
            due.is("undo()", x.undo(), 0);
            due.is("the level", x.point(0, 4, 5), 0);
        });
        h.test("- `column`: 0 to 11", "too small, the least, the greatest, too great",
            due -> due.range("column", 0, 11, Due.UNKNOWN, column -> new Calls().set(column, 3, 1)));
        h.test("- `row`: 0 to 11", "too small, the least, the greatest, too great",
            due -> due.range("row", 0, 11, Due.UNKNOWN, row -> new Calls().set(3, row, 1)));
        h.test("- `level`: 0 to 15", "too small, the least, the greatest, too great",
            due -> due.range("level", 0, 15, Due.BAD_VALUE, level -> {
                Calls x = new Calls();
                x.set(3, 3, 15 - Math.max(0, Math.min(15, level)));
                int answer = x.set(3, 3, level);
                return answer < 0 ? answer : x.point(0, 3, 3) == level ? 0 : Due.FULL;
            }));
        h.test("Returns the previous level", "0, 15, and one between", due -> {
            Calls x = new Calls();
            due.is("behind 0", x.set(0, 0, 15), 0);
            due.is("behind 15", x.set(0, 0, 4), 15);
            due.is("behind 4", x.set(0, 0, 0), 4);
            due.is("another point", x.set(11, 11, 1), 0);
        });
        h.test("UNKNOWN", "no such point", due -> {
            due.is("beyond the last column", new Calls().set(12, 0, 1), Due.UNKNOWN);
            due.is("beyond the last row", new Calls().set(0, 12, 1), Due.UNKNOWN);
            due.is("both", new Calls().set(-1, -1, 1), Due.UNKNOWN);
        });
        h.test("BAD_VALUE", "of a point that there is", due -> due.is("16", new Calls().set(11, 11, 16), Due.BAD_VALUE));
        h.test("NONE if it is so already", "0 of an empty one, and the level that was set", due -> {
            Calls x = new Calls();
            due.is("0", x.set(5, 5, 0), Due.NONE);
            x.set(5, 5, 15);
            due.is("15", x.set(5, 5, 15), Due.NONE);
            due.is("one less", x.set(5, 5, 14), 15);
            due.is("what a screen has does not matter", x.set(5, 5, 0), 14);
        });
    }
}
