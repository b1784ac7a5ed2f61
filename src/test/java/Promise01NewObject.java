/** Promise 1: SpiralFrames(). */
final class Promise01NewObject {
    private static final String EMPTY = "Creates three empty pictures.";

    private Promise01NewObject() {
    }

    static void tests() {
        Heading h = new Heading("Promise 1");
        h.test(EMPTY, "every point of each of them", due -> {
            for (int picture = 0; picture < 3; picture++) {
                due.are("points of the picture " + picture, Told.points(new Calls(), picture), new int[144]);
            }
        });
        h.test(EMPTY, "and all else that is told", due -> {
            int[] told = new int[Told.SCREENS_TOLD + Told.COUNTS_TOLD + Told.LOG_TOLD];
            java.util.Arrays.fill(told, Told.SCREENS_TOLD + Told.COUNTS_TOLD, told.length, Due.NONE);
            told[Told.SCREENS_TOLD] = 200;
            due.are("the state", Told.state(x -> { }), told);
            due.is("states in the history", new Calls().count(11), 0);
            due.is("length of the text", new Calls().count(12), 0);
            due.is("wouldNeed()", new Calls().wouldNeed(), 0);
            due.is("wouldSpend(0)", new Calls().wouldSpend(0), 9);
            due.is("undo()", new Calls().undo(), Due.NONE);
            due.is("restore()", new Calls().restore(), Due.NONE);
            due.is("paint()", new Calls().paint(), -100);
        });
        h.test(EMPTY, "of its own, not those of another object", due -> {
            Calls x = new Calls();
            Calls y = new Calls();
            Runs.rich(x);
            due.are("the other's state", Told.state(z -> { }), Told.state(z -> Runs.rich(new Calls())));
            due.is("the other's point", y.point(0, 0, 0), 0);
            due.is("the other's text", y.count(12), 0);
            due.is("the other's history", y.undo(), Due.NONE);
            due.is("the other's snapshot", y.restore(), Due.NONE);
            due.is("the other's frames", y.count(4), 0);
        });
    }
}
