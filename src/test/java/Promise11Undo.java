/** Promise 11: undo(). More is tested under HISTORY. */
final class Promise11Undo {
    private Promise11Undo() {
    }

    static void tests() {
        Heading h = new Heading("Promise 11");
        h.test("Removes and restores the latest state of the history.", "the log and the counts of more frames than the log knows", due -> {
            Run run = x -> {
                for (int i = 0; i < 10; i++) {
                    x.fill(0, 0, 4, 4, 1 + i);
                    x.send(i % 3 == 0);
                }
            };
            Run more = run;
            for (int frames = 0; frames < 4; frames++) {
                more = more.then(x -> x.send(true));
            }
            Run undone = more;
            for (int frames = 0; frames < 4; frames++) {
                undone = undone.then(Calls::undo);
            }
            due.are("the state", Told.state(undone), Told.state(run));
        });
        h.test("Removes and restores the latest state of the history.", "it is no act, and what was undone is gone", due -> {
            Calls x = new Calls();
            x.set(0, 0, 1);
            x.set(0, 0, 2);
            x.undo();
            due.is("states", x.count(11), 1);
            due.is("the level", x.point(0, 0, 0), 1);
            x.undo();
            due.is("states", x.count(11), 0);
            due.is("the level", x.point(0, 0, 0), 0);
        });
        h.test("Returns the number of states that are left", "3, 2, 1 and 0", due -> {
            Calls x = new Calls();
            for (int level = 1; level <= 5; level++) {
                x.set(0, 0, level);
            }
            for (int left = 3; left >= 0; left--) {
                due.is("undo()", x.undo(), left);
            }
        });
        h.test("NONE if the history is empty", "at first, behind the last one, and once more", due -> {
            Calls x = new Calls();
            due.is("at first", x.undo(), Due.NONE);
            x.set(0, 0, 1);
            due.is("the only one", x.undo(), 0);
            due.is("behind it", x.undo(), Due.NONE);
            due.is("once more", x.undo(), Due.NONE);
            x.set(0, 0, 1);
            due.is("one that came later", x.undo(), 0);
        });
    }
}
