/** Promise 10: clearText(). */
final class Promise10ClearText {
    private Promise10ClearText() {
    }

    static void tests() {
        Heading h = new Heading("Promise 10");
        h.test("Empties the text.", "nothing of it is left", due -> {
            Calls x = new Calls().text("s0,0");
            x.clearText();
            due.is("the length", x.count(12), 0);
            due.is("its fault", x.paint(), -100);
            x.type('s');
            due.is("nothing is left behind it", x.paint(), -101);
        });
        h.test("Empties the text.", "it changes nothing else, and is no act", due -> {
            Run run = x -> Runs.rich(x);
            due.are("the state", Told.state(run.then(Calls::clearText)), Told.state(run));
            due.is("states", run.then(Calls::clearText).made().count(11), 4);
            Calls x = new Calls().text("s0,0");
            x.clearText();
            due.is("undo()", x.undo(), Due.NONE);
        });
        h.test("Returns the length that it had.", "0, 1, 59 and 60", due -> {
            due.is("an empty one", new Calls().clearText(), 0);
            due.is("one character", new Calls().text("x").clearText(), 1);
            due.is("59", new Calls().text(Runs.TWELVE_ORDERS).clearText(), 59);
            due.is("60", new Calls().text(Runs.TWELVE_ORDERS + ";").clearText(), 60);
            Calls x = new Calls().text("x");
            x.clearText();
            due.is("once more", x.clearText(), 0);
        });
        h.test("Returns the length that it had.", "behind a character for which there was no room", due -> {
            Calls x = new Calls().text(Runs.TWELVE_ORDERS + ";s");
            due.is("60", x.clearText(), 60);
        });
    }
}
