/** Promise 8: sendKeyed(). */
final class Promise08SendKeyed {
    private Promise08SendKeyed() {
    }

    static void tests() {
        Heading h = new Heading("Promise 8");
        h.test("Sends the drawing as a keyed frame.", "all tiles whole, whatever the settings are", due -> {
            Calls x = new Calls();
            x.setNumber(0, 594);
            x.setNumber(1, 240);
            x.fill(1, 1, 9, 9, 3);
            x.sendKeyed(false);
            int[] wants = {594, Due.NONE, 1, 0, 0, 0, 9, 0};
            for (int what = 0; what < 8; what++) {
                due.is("frame(0, " + what + ")", x.frame(0, what), wants[what]);
            }
            due.is("the sender has it", x.difference(0, 1, -1), 0);
            due.is("the receiver has it", x.difference(0, 2, -1), 0);
            due.is("keyed ones", x.count(5), 1);
            due.is("frames since then", x.count(8), 0);
        });
        h.test("This is an act.", "it is recorded and undone, with all that it counts", due -> {
            Run run = x -> {
                Runs.rich(x);
                x.setNumber(0, 600);
            };
            due.is("states", run.then(x -> x.sendKeyed(false)).made().count(11), 4);
            due.are("behind undo()", Told.state(run.then(x -> x.sendKeyed(false)).then(Calls::undo)), Told.state(run));
            due.are("behind undo() of a lost one", Told.state(run.then(x -> x.sendKeyed(true)).then(Calls::undo)), Told.state(run));
        });
        h.test("- `isLost`: whether it is lost on the way", "true and false", due -> {
            for (int lost = 0; lost <= 1; lost++) {
                Calls x = new Calls();
                x.setNumber(0, 600);
                x.set(2, 2, 9);
                due.is("bits", x.sendKeyed(lost == 1), 594);
                due.is("the screen of the sender", x.point(1, 2, 2), 9);
                due.is("that of the receiver", x.point(2, 2, 2), lost == 1 ? 0 : 9);
                due.is("lost ones", x.count(6), lost);
                due.is("whether it was lost", x.frame(0, 3), lost);
                due.is("keyed ones", x.count(5), 1);
                due.is("frames since then", x.count(8), 0);
            }
        });
        h.test("Returns the bits that it spends (594)", "of an empty drawing and of a full one", due -> {
            Calls x = new Calls();
            x.setNumber(0, 600);
            due.is("an empty one", x.sendKeyed(false), 594);
            x.fill(0, 0, 12, 12, 15);
            due.is("a full one", x.sendKeyed(true), 594);
            due.is("all bits", x.count(7), 1188);
        });
        h.test("NOT_POSSIBLE if they cannot be spent", "593 and 594 bits, of the budget and with what was saved", due -> {
            due.is("200, lost or not", new Calls().sendKeyed(true), Due.NOT_POSSIBLE);
            due.is("593", Runs.saved(0, 593).sendKeyed(false), Due.NOT_POSSIBLE);
            due.is("594", Runs.saved(0, 594).sendKeyed(false), 594);
            due.is("300 and 293", Runs.saved(300, 293).sendKeyed(false), Due.NOT_POSSIBLE);
            due.is("300 and 294", Runs.saved(300, 294).sendKeyed(false), 594);
            due.is("584 and 9", Runs.saved(584, 9).sendKeyed(false), Due.NOT_POSSIBLE);
            due.is("585 and 9", Runs.saved(585, 9).sendKeyed(false), 594);
        });
        h.test("NOT_POSSIBLE if they cannot be spent", "again behind one that spent them", due -> {
            Calls x = Runs.saved(0, 594);
            due.is("the first", x.sendKeyed(false), 594);
            due.is("the second, with the budget alone", x.sendKeyed(false), 594);
            x.setNumber(0, 593);
            due.is("the third", x.sendKeyed(false), Due.NOT_POSSIBLE);
            due.is("keyed ones", x.count(5), 2);
        });
    }
}
