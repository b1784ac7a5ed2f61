/** Promise 7: send(). How it is sent is tested under SENDING. */
final class Promise07Send {
    private static final String SENDS = "Sends the drawing as a frame (which is keyed if it is to be, and can be).";

    private Promise07Send() {
    }

    static void tests() {
        Heading h = new Heading("Promise 7");
        h.test(SENDS, "the drawing is as it was, and both screens have it", due -> {
            Run run = x -> {
                x.setNumber(0, 600);
                Runs.drawAll(x, 0);
            };
            Run sent = run.then(x -> x.send(false));
            int[] drawn = Told.points(run.made(), 0);
            for (int picture = 0; picture < 3; picture++) {
                due.are("the picture " + picture, Told.points(sent.made(), picture), drawn);
            }
        });
        h.test("(which is keyed if it is to be, and can be)", "neither, one of both, and both", due -> {
            for (int period = 0; period <= 1; period++) {
                for (int budget = 593; budget <= 594; budget++) {
                    Calls x = new Calls();
                    x.setNumber(0, 9);
                    x.send(false);
                    x.setNumber(0, budget);
                    x.setNumber(2, period);
                    boolean isKeyed = period == 1 && budget == 594;
                    due.is("period " + period + ", budget " + budget, x.send(false), isKeyed ? 594 : 9);
                    due.is("keyed", x.frame(0, 2), isKeyed ? 1 : 0);
                    due.is("keyed ones", x.count(5), isKeyed ? 1 : 0);
                }
            }
        });
        h.test("This is an act.", "it is recorded and undone, with all that it counts", due -> {
            Run run = x -> Runs.rich(x);
            due.is("states", run.then(x -> x.send(false)).made().count(11), 4);
            due.are("behind undo()", Told.state(run.then(x -> x.send(false)).then(Calls::undo)), Told.state(run));
            due.are("behind undo() of a lost one", Told.state(run.then(x -> x.send(true)).then(Calls::undo)), Told.state(run));
            Calls x = new Calls();
            x.send(false);
            due.is("states behind the first", x.count(11), 1);
        });
        h.test("- `isLost`: whether it is lost on the way", "true and false", due -> {
            for (int lost = 0; lost <= 1; lost++) {
                Calls x = new Calls();
                x.set(2, 2, 9);
                due.is("bits", x.send(lost == 1), 74);
                due.is("the screen of the sender", x.point(1, 2, 2), 9);
                due.is("that of the receiver", x.point(2, 2, 2), lost == 1 ? 0 : 9);
                due.is("lost ones", x.count(6), lost);
                due.is("whether it was lost", x.frame(0, 3), lost);
                due.is("frames", x.count(4), 1);
                due.is("saved", x.count(3), 126);
            }
        });
        h.test("Returns the bits that it spends.", "the least, the most, and those of moved tiles", due -> {
            Calls x = new Calls();
            x.setNumber(0, 600);
            due.is("all skipped", x.send(false), 9);
            x.fill(0, 0, 12, 12, 8);
            due.is("all whole", x.send(false), 594);
            x.set(0, 0, 1);
            x.send(false);
            x.shift(-1, -1);
            due.is("all bits until then", x.count(7), 9 + 594 + 74);
            x.fill(0, 0, 12, 12, 8);
            due.is("one that is found a column to the right", x.send(false), 3 + 8);
        });
    }
}
