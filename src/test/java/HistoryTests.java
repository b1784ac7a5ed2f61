/** HISTORY. */
final class HistoryTests {
    private static final String FOUR = "A history of at most 4 states is kept; when one more is recorded, the oldest one is dropped";
    private static final String LATEST = "undo() removes and restores the latest one.";
    private static final String ACTS = "Each call of a method that is described as an act, and returns no error and not NONE, records "
        + "the state that was before it.";
    private static final String SNAPSHOT = "There is one snapshot, empty at first.";
    private static final String STATE = "A state is everything but the text, the history and the snapshot.";

    private HistoryTests() {
    }

    static void tests() {
        Heading h = new Heading("HISTORY");
        four(h);
        latest(h);
        acts(h);
        noActs(h);
        snapshot(h);
        state(h);
    }

    /** A point has the levels 1, 2, 3 and so on, one behind the other. */
    private static Calls levels(int acts) {
        Calls x = new Calls();
        for (int level = 1; level <= acts; level++) {
            x.set(3, 3, (level - 1) % 15 + 1);
        }
        return x;
    }

    private static void four(Heading h) {
        h.test(FOUR, "none, three, four, five, and more acts", due -> {
            for (int acts : new int[] {0, 1, 2, 3, 4, 5, 6, 7, 8, 9, 13}) {
                Calls x = levels(acts);
                int states = Math.min(4, acts);
                due.is("states behind " + acts + " acts", x.count(11), states);
                for (int undone = 1; undone <= states; undone++) {
                    due.is("undo " + undone + " behind " + acts, x.undo(), states - undone);
                    due.is("level behind undo " + undone + " of " + acts, x.point(0, 3, 3), acts - undone);
                }
                due.is("no more behind " + acts, x.undo(), Due.NONE);
                due.is("the level stays behind " + acts, x.point(0, 3, 3), acts - states);
            }
        });
        h.test("when one more is recorded, the oldest one is dropped", "also behind some that were undone", due -> {
            for (int undone = 1; undone <= 4; undone++) {
                Calls x = levels(6);
                for (int i = 0; i < undone; i++) {
                    x.undo();
                }
                for (int i = 0; i <= undone; i++) {
                    x.set(5, 5, i + 1);
                    due.is("states", x.count(11), Math.min(4, 4 - undone + i + 1));
                }
                for (int i = undone; i > 0; i--) {
                    x.undo();
                    due.is("the act " + i + " behind " + undone, x.point(0, 5, 5), i);
                }
                for (int left = 3 - undone; left >= 0; left--) {
                    due.is("states left", x.undo(), left);
                }
                due.is("no more", x.undo(), Due.NONE);
                due.is("the point that was drawn ahead", x.point(0, 3, 3), undone == 4 ? 2 : 3);
            }
        });
    }

    private static void latest(Heading h) {
        h.test(LATEST, "the latest first, and each one once", due -> {
            Calls x = levels(2);
            due.is("undo()", x.undo(), 1);
            due.is("the level", x.point(0, 3, 3), 1);
            x.set(3, 3, 9);
            due.is("undo() of another act", x.undo(), 1);
            due.is("the level", x.point(0, 3, 3), 1);
            due.is("undo()", x.undo(), 0);
            due.is("the level", x.point(0, 3, 3), 0);
            due.is("undo()", x.undo(), Due.NONE);
        });
        h.test(LATEST, "it is not recorded itself", due -> {
            Calls x = levels(4);
            for (int left = 3; left >= 0; left--) {
                x.undo();
                due.is("states", x.count(11), left);
            }
        });
        h.test(LATEST, "behind every kind of act, all is as it was", due -> {
            for (int act = 0; act < 8; act++) {
                int kind = act;
                due.are("state behind undo() of act " + act, Told.state(ahead().then(x -> act(x, kind)).then(Calls::undo)), Told.state(ahead()));
            }
        });
    }

    private static Run ahead() {
        return x -> {
            x.setNumber(0, 600);
            x.fill(2, 2, 5, 5, 2);
            x.send(false);
            x.keep();
            x.set(7, 7, 7);
            x.send(true);
            x.shift(1, 0);
            x.text("b0,0,9,9=1");
        };
    }

    private static int act(Calls x, int act) {
        switch (act) {
            case 0: return x.set(1, 1, 9);
            case 1: return x.fill(1, 1, 3, 3, 9);
            case 2: return x.shift(2, 1);
            case 3: return x.paint();
            case 4: return x.setNumber(2, 3);
            case 5: return x.send(false);
            case 6: return x.sendKeyed(false);
            default: return x.restore();
        }
    }

    private static void acts(Heading h) {
        h.test(ACTS, "each of the eight acts, once for each call", due -> {
            for (int act = 0; act < 8; act++) {
                Calls x = new Calls();
                x.setNumber(0, 600);
                x.keep();
                x.text("b0,0,2,2=1;s1,1;b5,5,2,2=2");
                due.holds("act " + act + " is no error", act(x, act) >= 0);
                due.is("states behind act " + act, x.count(11), 2);
                due.is("undo() of act " + act, x.undo(), 1);
                due.is("undo() of what was ahead", x.undo(), 0);
                due.is("the budget", x.count(0), 200);
            }
        });
        h.test(ACTS, "acts that return 0, and change nothing that is told of a picture", due -> {
            Calls x = new Calls();
            due.is("fill()", x.fill(0, 0, 12, 12, 0), 0);
            due.is("states", x.count(11), 1);
            due.is("shift()", x.shift(0, 0), 0);
            due.is("states", x.count(11), 2);
            due.is("paint()", x.text("s0,0").paint(), 1);
            due.is("states", x.count(11), 3);
            x.undo();
            x.undo();
            x.undo();
            x.keep();
            due.is("restore()", x.restore(), 0);
            due.is("states", x.count(11), 1);
        });
        h.test("and returns no error and not NONE", "acts that return one record nothing", due -> {
            Calls x = new Calls();
            x.set(0, 0, 1);
            x.text("s12,0");
            Due.ToInt[] refused = {
                y -> y.set(12, 0, 1), y -> y.set(0, 0, 16), y -> y.set(0, 0, 1), y -> y.fill(-1, 0, 1, 1, 1), y -> y.fill(0, 0, 1, 13, 1),
                y -> y.shift(12, 0), Calls::paint, y -> y.text("x").paint(), y -> y.setNumber(3, 9), y -> y.setNumber(0, 601),
                y -> y.setNumber(0, 200), y -> y.sendKeyed(false), Calls::restore};
            for (int i = 0; i < refused.length; i++) {
                due.holds("refused call " + i, refused[i].of(x) < 0);
                due.is("states behind refused call " + i, x.count(11), 1);
            }
        });
    }

    private static void noActs(Heading h) {
        h.test("a method that is described as an act", "no other method records a state", due -> {
            Calls x = new Calls();
            x.set(0, 0, 1);
            x.send(false);
            Due.ToInt[] calls = {
                y -> y.type('s'), Calls::clearText, Calls::keep, y -> y.point(0, 0, 0), y -> y.difference(0, 1, -1), y -> y.spiral(3, 0),
                y -> y.wouldCode(0, 0, 0), y -> y.wouldSpend(0), Calls::wouldNeed, y -> y.best(0, 0), y -> y.frame(0, 0),
                y -> y.sent(0, 0), y -> y.count(0)};
            for (int i = 0; i < calls.length; i++) {
                due.holds("call " + i + " is no error", calls[i].of(x) >= 0);
                due.is("states behind call " + i, x.count(11), 2);
            }
        });
    }

    private static void snapshot(Heading h) {
        h.test(SNAPSHOT, "empty until keep() is called, whatever else is", due -> {
            due.is("of a new object", new Calls().restore(), Due.NONE);
            Calls x = levels(5);
            x.send(false);
            due.is("behind acts", x.restore(), Due.NONE);
            x.undo();
            due.is("behind undo()", x.restore(), Due.NONE);
        });
        h.test(SNAPSHOT, "one: the later takes the place of the earlier", due -> {
            Calls x = new Calls();
            x.set(1, 1, 4);
            x.keep();
            x.set(1, 1, 5);
            x.keep();
            x.set(1, 1, 6);
            x.restore();
            due.is("the later", x.point(0, 1, 1), 5);
            x.restore();
            due.is("and it again", x.point(0, 1, 1), 5);
        });
        h.test(SNAPSHOT, "one of an empty object is no empty snapshot", due -> {
            Calls x = new Calls();
            x.keep();
            x.set(1, 1, 4);
            due.is("restore()", x.restore(), 0);
            due.is("the level", x.point(0, 1, 1), 0);
        });
    }

    private static void state(Heading h) {
        Run later = x -> {
            x.setNumber(0, 600);
            x.setNumber(1, 200);
            x.setNumber(2, 1);
            x.shift(2, 3);
            for (int i = 0; i < 9; i++) {
                x.send(i % 2 == 0);
            }
        };
        h.test(STATE, "the pictures, the settings, the counts and the log are brought back by restore()", due -> {
            Run kept = x -> Runs.rich(x);
            due.are("the state", Told.state(kept.then(Calls::keep).then(later).then(Calls::restore)), Told.state(kept));
        });
        h.test(STATE, "and by undo()", due -> {
            Run kept = x -> Runs.rich(x);
            Run behind = kept.then(Calls::keep).then(later).then(Calls::restore);
            due.are("behind a restore() that is undone", Told.state(behind.then(Calls::undo)), Told.state(kept.then(later)));
        });
        h.test(STATE, "the text is left by undo() and restore()", due -> {
            Calls x = new Calls();
            x.keep();
            x.set(0, 0, 1);
            x.text("s1,1");
            x.undo();
            due.is("length behind undo()", x.count(12), 4);
            x.restore();
            due.is("length behind restore()", x.count(12), 4);
            due.is("it can be painted", x.paint(), 1);
            x.clearText();
            x.undo();
            due.is("and is not brought back", x.count(12), 0);
        });
        h.test(STATE, "the history is left by restore(), but for the state that it records", due -> {
            Calls x = levels(2);
            x.keep();
            x.undo();
            x.undo();
            x.restore();
            due.is("states", x.count(11), 1);
            due.is("undo()", x.undo(), 0);
            due.is("the level ahead of restore()", x.point(0, 3, 3), 0);
        });
        h.test(STATE, "the snapshot is left by undo() and restore()", due -> {
            Calls x = levels(1);
            x.keep();
            x.undo();
            due.is("restore()", x.restore(), 0);
            due.is("the level of the snapshot", x.point(0, 3, 3), 1);
            x.set(3, 3, 8);
            x.restore();
            due.is("the level of the snapshot again", x.point(0, 3, 3), 1);
        });
        h.test(STATE, "what is drawn behind keep() or behind an act does not change what was kept or recorded", due -> {
            Calls x = new Calls();
            x.set(0, 0, 1);
            x.keep();
            x.set(0, 0, 2);
            x.restore();
            x.set(0, 0, 3);
            x.restore();
            due.is("the snapshot", x.point(0, 0, 0), 1);
            x.undo();
            x.set(0, 0, 4);
            x.undo();
            due.is("the state that was recorded", x.point(0, 0, 0), 3);
        });
    }
}
