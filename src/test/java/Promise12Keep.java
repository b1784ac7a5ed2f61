/** Promise 12: keep(). */
final class Promise12Keep {
    private static final String TAKES = "Takes a snapshot of the state, in place of the one that was.";

    private Promise12Keep() {
    }

    static void tests() {
        Heading h = new Heading("Promise 12");
        h.test(TAKES, "of all that a state is", due -> {
            Run run = x -> Runs.rich(x);
            Run changed = run.then(Calls::keep).then(x -> x.shift(1, 1)).then(x -> x.setNumber(0, 9)).then(x -> x.send(true));
            due.are("the state", Told.state(changed.then(Calls::restore)), Told.state(run));
        });
        h.test(TAKES, "nothing else is changed, and it is no act", due -> {
            Run run = x -> Runs.rich(x);
            due.are("the state", Told.state(run.then(Calls::keep)), Told.state(run));
            Calls x = new Calls();
            x.keep();
            due.is("states", x.count(11), 0);
            due.is("undo()", x.undo(), Due.NONE);
        });
        h.test("in place of the one that was", "the later one is restored, though undo() came between", due -> {
            Calls x = new Calls();
            x.set(4, 4, 4);
            x.keep();
            x.set(4, 4, 5);
            x.keep();
            x.undo();
            x.undo();
            x.restore();
            due.is("the level", x.point(0, 4, 4), 5);
        });
        h.test("Returns the number of frames so far.", "0, 1, 8, 9 and more, lost and keyed ones too", due -> {
            due.is("no frames", new Calls().keep(), 0);
            Calls x = new Calls();
            x.setNumber(0, 600);
            for (int frames = 1; frames <= 20; frames++) {
                int answer = frames % 5 == 0 ? x.sendKeyed(false) : x.send(frames % 3 == 0);
                due.holds("frame " + frames, answer > 0);
                due.is("frames", x.keep(), frames);
            }
            x.undo();
            due.is("behind undo()", x.keep(), 19);
        });
    }
}
