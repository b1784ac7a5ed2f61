/** SPIRAL. */
final class SpiralTests {
    private SpiralTests() {
    }

    static void tests() {
        Heading h = new Heading("SPIRAL");
        h.test("The spiral has 25 places, numbered from 0", "no place ahead of 0 or behind 24", due -> {
            for (int what = 0; what < 3; what++) {
                due.is("place -1", new Calls().spiral(-1, what), Due.UNKNOWN);
                due.holds("place 0", new Calls().spiral(0, what) > 0);
                due.holds("place 24", new Calls().spiral(24, what) > 0);
                due.is("place 25", new Calls().spiral(25, what), Due.UNKNOWN);
            }
        });
        h.test("steps from a tile to another place, told as columns to the right and rows down", "a step is one point", due -> {
            Calls x = new Calls();
            x.setNumber(0, 600);
            Runs.drawMiddle(x, 0);
            x.send(false);
            x.shift(-1, 0);
            due.is("one column to the right on the screen", x.wouldCode(4, 0, 1), 1);
            x.shift(1, -1);
            due.is("one row down on the screen", x.wouldCode(4, 0, 1), 3);
        });
        h.test("The place 0 is (0, 0).", "its columns and rows", due -> place(due, 0, 0, 0));
        h.test("From there it goes 1 to the right, 1 down, 2 to the left, 2 up, 3 to the right, 3 down, 4 to the left, 4 up, and 4 to "
            + "the right; each single step is a place.", "all 25 places", SpiralTests::walk);
        h.test("(So the place 1 is (1, 0), 2 is (1, 1), 3 is (0, 1), 4 is (-1, 1), 9 is (2, -1), and 24 is (2, -2).)", "each of them",
            due -> {
                place(due, 1, 1, 0);
                place(due, 2, 1, 1);
                place(due, 3, 0, 1);
                place(due, 4, -1, 1);
                place(due, 9, 2, -1);
                place(due, 24, 2, -2);
            });
    }

    private static void place(Due due, int place, int right, int down) {
        due.is("columns of the place " + place, new Calls().spiral(place, 0), 100 + right);
        due.is("rows of the place " + place, new Calls().spiral(place, 1), 100 + down);
    }

    private static void walk(Due due) {
        int[][] legs = {{1, 0, 1}, {0, 1, 1}, {-1, 0, 2}, {0, -1, 2}, {1, 0, 3}, {0, 1, 3}, {-1, 0, 4}, {0, -1, 4}, {1, 0, 4}};
        int right = 0;
        int down = 0;
        int place = 0;
        for (int[] leg : legs) {
            for (int step = 0; step < leg[2]; step++) {
                right += leg[0];
                down += leg[1];
                place++;
                place(due, place, right, down);
                due.are("as written out by hand", Runs.PLACES[place], right, down);
            }
        }
        due.is("the last place", place, 24);
    }
}
