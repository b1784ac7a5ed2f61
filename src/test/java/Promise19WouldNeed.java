/** Promise 19: wouldNeed(). How it grows is tested under SENDING. */
final class Promise19WouldNeed {
    private static final String RETURNS = "Returns the tolerance with which send() would send a frame now that is not keyed.";

    private Promise19WouldNeed() {
    }

    private static Calls two(int budget) {
        Calls x = new Calls();
        x.fill(0, 0, 4, 4, 2);
        x.fill(4, 0, 4, 4, 6);
        x.setNumber(0, budget);
        return x;
    }

    static void tests() {
        Heading h = new Heading("Promise 19");
        h.test(RETURNS, "0, 240, and bits that are just enough or one less", due -> {
            due.is("nothing to send", new Calls().wouldNeed(), 0);
            due.is("139 bits for two", two(139).wouldNeed(), 0);
            due.is("138 bits for two", two(138).wouldNeed(), 32);
            due.is("74 bits for one", two(74).wouldNeed(), 32);
            due.is("73 bits for one", two(73).wouldNeed(), 96);
            Calls x = two(9);
            x.fill(0, 0, 12, 12, 15);
            due.is("the most", x.wouldNeed(), 240);
            due.is("the most is enough", x.wouldSpend(240), 9);
        });
        h.test(RETURNS, "not less than the least one", due -> {
            for (int least : new int[] {0, 31, 32, 33, 95, 96, 97, 239, 240}) {
                Calls x = two(73);
                x.setNumber(1, least);
                due.is("73 bits from " + least, x.wouldNeed(), Math.max(96, least));
            }
        });
        h.test(RETURNS, "with what was saved", due -> {
            for (int bits = 138; bits <= 139; bits++) {
                Calls x = Runs.saved(64, bits - 64);
                x.fill(0, 0, 4, 4, 2);
                x.fill(4, 0, 4, 4, 6);
                due.is(bits + " bits", x.wouldNeed(), bits == 139 ? 0 : 32);
            }
        });
        h.test(RETURNS, "as send() sends it then", due -> {
            Run run = x -> {
                x.setNumber(0, 600);
                Runs.drawAll(x, 0);
                x.send(false);
                x.shift(1, 0);
            };
            for (int budget = 9; budget <= 600; budget += 37) {
                int least = budget;
                Calls x = run.then(y -> y.setNumber(0, least)).made();
                int tolerance = x.wouldNeed();
                int bits = x.wouldSpend(tolerance);
                due.holds("enough with " + budget, bits <= budget + x.count(3));
                due.holds("not enough with less than with " + budget, tolerance == 0 || x.wouldSpend(tolerance - 1) > budget + x.count(3));
                due.is("bits with " + budget, x.send(false), bits);
                due.is("tolerance with " + budget, x.frame(0, 1), tolerance);
            }
        });
        h.test("a frame now that is not keyed", "also if the next one is to be, and can be", due -> {
            Calls x = two(600);
            x.setNumber(1, 7);
            x.setNumber(2, 1);
            x.send(false);
            due.is("wouldNeed()", x.wouldNeed(), 7);
            due.is("the next one is keyed", x.send(false), 594);
        });
        h.test(RETURNS, "by the screen of the sender, and nothing is changed", due -> {
            Calls x = two(139);
            x.send(true);
            x.setNumber(0, 73);
            due.is("the receiver has it not", x.wouldNeed(), 0);
            Run run = y -> Runs.rich(y);
            due.are("the state", Told.state(run.then(Calls::wouldNeed)), Told.state(run));
        });
    }
}
