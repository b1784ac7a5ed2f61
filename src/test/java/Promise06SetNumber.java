/** Promise 6: setNumber(). */
final class Promise06SetNumber {
    private static final int[] FIRST = {200, 0, 0};
    private static final int[] LEAST = {9, 0, 0};
    private static final int[] GREATEST = {600, 240, 50};

    private Promise06SetNumber() {
    }

    static void tests() {
        Heading h = new Heading("Promise 6");
        h.test("Sets a number.", "this one and no other", due -> {
            for (int what = 0; what < 3; what++) {
                Calls x = new Calls();
                x.setNumber(what, 33);
                for (int other = 0; other < 13; other++) {
                    int first = other < 3 ? FIRST[other] : other == 11 ? 1 : 0;
                    due.is("number " + other + " behind " + what, x.count(other), other == what ? 33 : first);
                }
            }
        });
        h.test("This is an act.", "it is recorded and undone", due -> {
            for (int what = 0; what < 3; what++) {
                Calls x = new Calls();
                x.setNumber(what, 33);
                due.is("states", x.count(11), 1);
                due.is("undo()", x.undo(), 0);
                due.is("the number", x.count(what), FIRST[what]);
            }
        });
        h.test("- `what`: 0 for the budget (9 to 600), 1 for the least tolerance (0 to 240), 2 for the period (0 to 50)",
            "what: too small, the least, the greatest, too great",
            due -> due.range("what", 0, 2, Due.BAD_VALUE, what -> new Calls().setNumber(what, 9)));
        range(h, "0 for the budget (9 to 600)", 0);
        range(h, "1 for the least tolerance (0 to 240)", 1);
        range(h, "2 for the period (0 to 50)", 2);
        h.test("- `value`: the new number", "the least and the greatest are told then", due -> {
            for (int what = 0; what < 3; what++) {
                Calls x = new Calls();
                x.setNumber(what, GREATEST[what]);
                due.is("the greatest of " + what, x.count(what), GREATEST[what]);
                x.setNumber(what, LEAST[what]);
                due.is("the least of " + what, x.count(what), LEAST[what]);
            }
        });
        h.test("Returns the previous one", "the first, the greatest, the least", due -> {
            for (int what = 0; what < 3; what++) {
                Calls x = new Calls();
                due.is("the first of " + what, x.setNumber(what, GREATEST[what]), FIRST[what]);
                due.is("the greatest of " + what, x.setNumber(what, LEAST[what]), GREATEST[what]);
                due.is("the least of " + what, x.setNumber(what, LEAST[what] + 1), LEAST[what]);
            }
        });
        h.test("BAD_VALUE", "what, value, or both", due -> {
            due.is("what", new Calls().setNumber(3, 9), Due.BAD_VALUE);
            due.is("value", new Calls().setNumber(0, 8), Due.BAD_VALUE);
            due.is("both", new Calls().setNumber(-1, -1), Due.BAD_VALUE);
        });
        h.test("NONE if it is so already", "at first, and behind a change", due -> {
            for (int what = 0; what < 3; what++) {
                Calls x = new Calls();
                due.is("at first", x.setNumber(what, FIRST[what]), Due.NONE);
                x.setNumber(what, 20);
                due.is("behind a change", x.setNumber(what, 20), Due.NONE);
                due.is("what was at first is none then", x.setNumber(what, FIRST[what]), 20);
            }
        });
    }

    private static void range(Heading h, String words, int what) {
        h.test(words, "too small, the least, the greatest, too great",
            due -> due.range("value of " + what, LEAST[what], GREATEST[what], Due.BAD_VALUE,
                value -> new Calls().setNumber(what, value)));
    }
}
