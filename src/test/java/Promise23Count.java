/** Promise 23: count(). */
final class Promise23Count {
    private static final String[] WORDS = {"0 for the budget", "1 for the least tolerance", "2 for the period", "3 for the bits that are saved",
        "4 for frames so far", "5 for keyed frames so far", "6 for lost frames so far", "7 for all bits so far",
        "8 for the frames since the latest keyed one (or since the beginning)", "9 for points at which both screens differ",
        "10 for tiles at which they do", "11 for the states in the history", "12 for the length of the text"};

    private Promise23Count() {
    }

    static void tests() {
        Heading h = new Heading("Promise 23");
        h.test("- `what`: 0 for the budget", "too small, the least, the greatest, too great", due -> {
            due.range("what", 0, 12, Due.BAD_VALUE, what -> new Calls().count(what));
            due.range("what behind a run", 0, 12, Due.BAD_VALUE, what -> rich().count(what));
        });
        h.test("BAD_VALUE", "-1, 13 and the extremes", due -> {
            due.is("-1", new Calls().count(-1), Due.BAD_VALUE);
            due.is("13", new Calls().count(13), Due.BAD_VALUE);
            due.is("the least int", new Calls().count(Integer.MIN_VALUE), Due.BAD_VALUE);
            due.is("the greatest int", new Calls().count(Integer.MAX_VALUE), Due.BAD_VALUE);
        });
        h.test("Returns the number", "nothing is changed by it", due -> {
            Run run = x -> Runs.rich(x);
            due.are("the state", Told.state(run.then(x -> x.count(9))), Told.state(run));
        });
        story(h);
        ends(h);
    }

    private static Calls rich() {
        Calls x = new Calls();
        Runs.rich(x);
        return x;
    }

    /** Each step of a run, and all that is counted behind it. */
    private static void story(Heading h) {
        Due.ToInt[] steps = {
            x -> 0,
            x -> x.setNumber(0, 300) + x.setNumber(1, 2) + x.setNumber(2, 9) + x.text("b3,3,2,2=1").count(12),
            x -> x.send(false),
            x -> x.fill(3, 3, 2, 2, 4) + x.send(true),
            x -> x.sendKeyed(true),
            x -> x.setNumber(0, 594) + x.send(true),
            x -> x.sendKeyed(false),
            x -> x.undo() + x.clearText()};
        int[][] wants = {
            {200, 0, 0, 0, 0, 0, 0, 0, 0, 0, 0, 0, 0},
            {300, 2, 9, 0, 0, 0, 0, 0, 0, 0, 0, 3, 10},
            {300, 2, 9, 291, 1, 0, 0, 9, 1, 0, 0, 4, 10},
            {300, 2, 9, 322, 2, 0, 1, 278, 2, 4, 4, 4, 10},
            {300, 2, 9, 28, 3, 1, 2, 872, 0, 4, 4, 4, 10},
            {594, 2, 9, 600, 4, 1, 3, 881, 1, 4, 4, 4, 10},
            {594, 2, 9, 600, 5, 2, 3, 1475, 0, 0, 0, 4, 10},
            {594, 2, 9, 600, 4, 1, 3, 881, 1, 4, 4, 3, 0}};
        for (int what = 0; what <= 12; what++) {
            int number = what;
            h.test(WORDS[what], "none at first, and behind each step of a run", due -> {
                Calls x = new Calls();
                for (int i = 0; i < steps.length; i++) {
                    steps[i].of(x);
                    due.is("count(" + number + ") behind the step " + i, x.count(number), wants[i][number]);
                }
            });
        }
    }

    private static void ends(Heading h) {
        h.test("8 for the frames since the latest keyed one (or since the beginning)", "keyed by the period, and undone", due -> {
            Calls x = new Calls();
            x.setNumber(0, 600);
            x.setNumber(2, 3);
            for (int frame = 1; frame <= 9; frame++) {
                x.send(false);
                due.is("behind frame " + frame, x.count(8), frame % 4);
            }
            x.undo();
            due.is("behind undo()", x.count(8), 0);
            x.undo();
            due.is("behind one more", x.count(8), 3);
        });
        h.test("9 for points at which both screens differ", "none, one, all", due -> {
            Calls x = new Calls();
            x.setNumber(0, 600);
            due.is("none", x.count(9), 0);
            x.set(11, 11, 1);
            x.send(true);
            due.is("one", x.count(9), 1);
            x.fill(0, 0, 12, 12, 15);
            x.send(true);
            due.is("all", x.count(9), 144);
            due.is("all tiles", x.count(10), 9);
        });
        h.test("10 for tiles at which they do", "each of them alone, by one point", due -> {
            for (int tile = 0; tile < 9; tile++) {
                Calls x = new Calls();
                x.set(tile % 3 * 4 + 3, tile / 3 * 4 + 3, 1);
                x.send(true);
                due.is("tile " + tile, x.count(10), 1);
                due.is("its point", x.count(9), 1);
            }
        });
        h.test("9 for points at which both screens differ", "that the drawing differs does not matter", due -> {
            Calls x = new Calls();
            x.fill(0, 0, 12, 12, 15);
            due.is("points", x.count(9), 0);
            due.is("tiles", x.count(10), 0);
        });
        h.test("10 for tiles at which they do", "higher and lower points do not make up for each other", due -> {
            Calls x = new Calls();
            x.set(0, 0, 4);
            x.send(false);
            x.set(0, 0, 0);
            x.set(1, 0, 4);
            x.send(true);
            due.is("tiles", x.count(10), 1);
            due.is("points", x.count(9), 2);
        });
        h.test("11 for the states in the history", "from 0 to 4, and no more", due -> {
            Calls x = new Calls();
            for (int acts = 1; acts <= 7; acts++) {
                x.set(0, 0, acts);
                due.is("behind " + acts + " acts", x.count(11), Math.min(4, acts));
            }
        });
        h.test("12 for the length of the text", "from 0 to 60, and no more", due -> {
            Calls x = new Calls();
            for (int length = 1; length <= 62; length++) {
                x.type('b');
                due.is("behind " + length + " characters", x.count(12), Math.min(60, length));
            }
        });
        h.test("3 for the bits that are saved", "0 and 600", due -> {
            due.is("none", Runs.saved(0, 9).count(3), 0);
            due.is("600", Runs.saved(600, 9).count(3), 600);
        });
    }
}
