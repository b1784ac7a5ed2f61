/** Promise 13: restore(). */
final class Promise13Restore {
    private static final String STAYS = "Restores the state of the snapshot, which stays.";

    private Promise13Restore() {
    }

    static void tests() {
        Heading h = new Heading("Promise 13");
        Run kept = x -> {
            x.setNumber(0, 300);
            x.setNumber(2, 7);
            x.fill(3, 3, 4, 4, 4);
            x.send(true);
        };
        Run later = kept.then(Calls::keep).then(x -> x.text("b0,0,4,4=7")).then(Calls::paint).then(x -> x.setNumber(1, 5)).then(x -> {
            for (int i = 0; i < 9; i++) {
                x.send(false);
            }
        });
        h.test(STAYS, "all of it", due -> due.are("the state", Told.state(later.then(Calls::restore)), Told.state(kept)));
        h.test("which stays", "it can be restored again, behind other acts and behind undo()", due -> {
            Run again = later.then(Calls::restore).then(x -> x.fill(0, 0, 12, 12, 9)).then(x -> x.send(false)).then(Calls::restore);
            due.are("behind other acts", Told.state(again), Told.state(kept));
            due.are("behind undo()", Told.state(again.then(Calls::undo).then(Calls::restore)), Told.state(kept));
        });
        h.test("This is an act.", "it is recorded and undone, also where nothing differs", due -> {
            due.are("behind undo()", Told.state(later.then(Calls::restore).then(Calls::undo)), Told.state(later));
            Calls x = new Calls();
            x.keep();
            x.restore();
            due.is("states", x.count(11), 1);
            x.restore();
            due.is("states", x.count(11), 2);
        });
        h.test("Returns the number of frames then", "0 and more, whatever there were ahead", due -> {
            due.is("one", later.made().restore(), 1);
            Calls x = new Calls();
            x.keep();
            x.send(false);
            x.send(false);
            due.is("none", x.restore(), 0);
            x.undo();
            x.keep();
            x.undo();
            due.is("more than there were", x.restore(), 2);
            due.is("frames", x.count(4), 2);
        });
        h.test("NONE if there is no snapshot", "and none is made by it", due -> {
            Calls x = new Calls();
            due.is("at first", x.restore(), Due.NONE);
            x.set(0, 0, 1);
            due.is("behind an act", x.restore(), Due.NONE);
            x.keep();
            due.is("behind keep()", x.restore(), 0);
        });
    }
}
