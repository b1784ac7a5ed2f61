/** Promise 18: wouldSpend(). */
final class Promise18WouldSpend {
    private static final String RETURNS = "Returns the bits of a frame that is sent now with this tolerance and is not keyed";

    private Promise18WouldSpend() {
    }

    static void tests() {
        Heading h = new Heading("Promise 18");
        h.test("- `tolerance`: 0 to 240", "too small, the least, the greatest, too great", due -> {
            due.range("tolerance", 0, 240, Due.BAD_VALUE, tolerance -> new Calls().wouldSpend(tolerance));
            due.range("tolerance of a full drawing", 0, 240, Due.BAD_VALUE, tolerance -> {
                Calls x = new Calls();
                x.fill(0, 0, 12, 12, 15);
                return x.wouldSpend(tolerance);
            });
        });
        h.test(RETURNS, "the least, the most, and where they change", due -> {
            due.is("nothing to send", new Calls().wouldSpend(0), 9);
            Calls x = new Calls();
            x.fill(0, 0, 12, 12, 15);
            due.is("all whole", x.wouldSpend(0), 594);
            due.is("all whole still", x.wouldSpend(239), 594);
            due.is("all skipped", x.wouldSpend(240), 9);
            x.fill(4, 4, 8, 8, 1);
            due.is("all whole", x.wouldSpend(15), 594);
            due.is("five whole, four skipped", x.wouldSpend(16), 5 * 66 + 4);
        });
        h.test(RETURNS, "with moved tiles, by the tolerance of each place", due -> {
            Calls x = new Calls();
            x.setNumber(0, 600);
            Runs.drawMiddle(x, 0);
            x.send(false);
            x.shift(-1, -1);
            int bits = 0;
            for (int tile = 0; tile < 9; tile++) {
                bits += x.wouldCode(tile, 0, 2);
            }
            due.is("as of all tiles", x.wouldSpend(0), bits);
            due.is("four tiles are found by the place 2", bits, 4 * 3 + 5);
            due.is("and sent so", x.send(false), bits);
        });
        h.test("and is not keyed", "also if the next one is to be, and can be", due -> {
            Calls x = new Calls();
            x.setNumber(0, 600);
            x.setNumber(2, 1);
            x.send(false);
            due.is("wouldSpend(0)", x.wouldSpend(0), 9);
            due.is("the next one is keyed", x.send(false), 594);
        });
        h.test("with this tolerance", "the least tolerance and the budget do not matter", due -> {
            Calls x = new Calls();
            x.fill(0, 0, 12, 12, 15);
            x.setNumber(1, 240);
            x.setNumber(0, 9);
            due.is("wouldSpend(0)", x.wouldSpend(0), 594);
        });
        h.test(RETURNS, "by the screen of the sender, and nothing is changed", due -> {
            Calls x = new Calls();
            x.fill(0, 0, 4, 4, 3);
            x.send(true);
            due.is("the receiver has it not", x.wouldSpend(0), 9);
            Run run = y -> Runs.rich(y);
            due.are("the state", Told.state(run.then(y -> y.wouldSpend(0))), Told.state(run));
        });
        h.test("BAD_VALUE", "-1, 241 and the extremes", due -> {
            due.is("-1", new Calls().wouldSpend(-1), Due.BAD_VALUE);
            due.is("241", new Calls().wouldSpend(241), Due.BAD_VALUE);
            due.is("the least int", new Calls().wouldSpend(Integer.MIN_VALUE), Due.BAD_VALUE);
            due.is("the greatest int", new Calls().wouldSpend(Integer.MAX_VALUE), Due.BAD_VALUE);
        });
    }
}
