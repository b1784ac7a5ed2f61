/** Promise 21: frame(). How many frames are known is tested under LOG. */
final class Promise21Frame {
    private static final String BACK = "- `back`: 0 for the latest frame, 1 for the one before, and so on";

    private Promise21Frame() {
    }

    /** A frame with a whole tile; one that is lost with four moved ones and one that is not quite right; and a keyed one. */
    private static Calls three() {
        Calls x = new Calls();
        x.setNumber(0, 600);
        x.fill(4, 4, 4, 4, 5);
        x.send(false);
        x.shift(-1, -1);
        x.set(11, 11, 2);
        x.setNumber(1, 3);
        x.send(true);
        x.sendKeyed(false);
        return x;
    }

    static void tests() {
        Heading h = new Heading("Promise 21");
        back(h);
        what(h);
        answers(h);
    }

    private static void back(Heading h) {
        h.test(BACK, "the latest, the first, and one more", due -> {
            due.is("0", three().frame(0, 0), 594);
            due.is("1", three().frame(1, 0), 9 - 4 + 4 * 3);
            due.is("2", three().frame(2, 0), 74);
            due.is("3", three().frame(3, 0), Due.NONE);
        });
        h.test(BACK, "7 and 8 of more frames than are known", due -> {
            Calls x = three();
            for (int i = 0; i < 5; i++) {
                x.send(false);
            }
            due.is("7 of eight", x.frame(7, 0), 74);
            due.is("8 of eight", x.frame(8, 0), Due.NONE);
            x.send(false);
            due.is("7 of nine", x.frame(7, 0), 9 - 4 + 4 * 3);
            due.is("8 of nine", x.frame(8, 0), Due.NONE);
        });
        h.test("Looks back at the log.", "nothing is changed by it, nor by what is drawn behind a frame", due -> {
            Run run = x -> Runs.rich(x);
            due.are("the state", Told.state(run.then(x -> x.frame(0, 0))), Told.state(run));
            Calls x = three();
            x.set(0, 0, 15);
            due.is("the difference behind the frame", x.frame(0, 7), 0);
        });
    }

    private static void what(Heading h) {
        h.test("- `what`: 0 for its bits", "too small, the least, the greatest, too great", due -> {
            due.range("what", 0, 7, Due.BAD_VALUE, what -> three().frame(0, what));
            due.range("what of the first frame", 0, 7, Due.BAD_VALUE, what -> three().frame(2, what));
            due.range("what of no frame", 0, 7, Due.BAD_VALUE, what -> three().frame(3, what));
        });
        String[] words = {"0 for its bits", "1 for its tolerance (NONE if it is keyed)", "2 for whether it is keyed (1, otherwise 0)",
            "3 for whether it was lost (1, otherwise 0)", "4 for its skipped tiles", "5 for its moved tiles", "6 for its whole ones",
            "7 for the difference of the drawing and the screen of the sender behind it"};
        int[][] wants = {{594, 17, 74}, {Due.NONE, 3, 0}, {1, 0, 0}, {0, 1, 0}, {0, 5, 8}, {0, 4, 0}, {9, 0, 1}, {0, 2, 0}};
        for (int i = 0; i < 8; i++) {
            int number = i;
            h.test(words[i], "of a keyed frame, a lost one, and another", due -> {
                for (int back = 0; back < 3; back++) {
                    due.is("frame(" + back + ", " + number + ")", three().frame(back, number), wants[number][back]);
                }
            });
        }
        h.test("1 for its tolerance (NONE if it is keyed)", "the least and the greatest", due -> {
            for (int least : new int[] {0, 1, 239, 240}) {
                Calls x = new Calls();
                x.setNumber(1, least);
                x.send(false);
                due.is("least " + least, x.frame(0, 1), least);
            }
        });
        h.test("3 for whether it was lost (1, otherwise 0)", "a keyed one that is", due -> {
            Calls x = new Calls();
            x.setNumber(0, 600);
            x.sendKeyed(true);
            due.is("lost", x.frame(0, 3), 1);
            due.is("keyed", x.frame(0, 2), 1);
        });
        h.test("7 for the difference of the drawing and the screen of the sender behind it", "the most, and that of a lost one", due -> {
            Calls x = new Calls();
            x.fill(0, 0, 12, 12, 15);
            x.setNumber(1, 240);
            x.send(false);
            due.is("all is left", x.frame(0, 7), 2160);
            x.fill(0, 0, 12, 12, 0);
            x.setNumber(1, 0);
            x.set(0, 0, 3);
            x.send(true);
            due.is("nothing is left at the sender, though it is lost", x.frame(0, 7), 0);
        });
    }

    private static void answers(Heading h) {
        h.test("Returns the number", "the same behind ten calls", due -> {
            Calls x = three();
            for (int i = 0; i < 10; i++) {
                due.is("frame(1, 0)", x.frame(1, 0), 17);
            }
        });
        h.test("BAD_VALUE (back is negative, or what)", "-1, the least int, and with no frame", due -> {
            due.is("back -1", three().frame(-1, 0), Due.BAD_VALUE);
            due.is("the least int", three().frame(Integer.MIN_VALUE, 0), Due.BAD_VALUE);
            due.is("what -1", three().frame(0, -1), Due.BAD_VALUE);
            due.is("what 8", three().frame(0, 8), Due.BAD_VALUE);
            due.is("back -1 of no frame", new Calls().frame(-1, 0), Due.BAD_VALUE);
            due.is("what 8 of no frame", new Calls().frame(0, 8), Due.BAD_VALUE);
        });
        h.test("NONE if there is none", "no frame yet, one too far back, and the greatest int", due -> {
            for (int what = 0; what < 8; what++) {
                due.is("no frame yet", new Calls().frame(0, what), Due.NONE);
                due.is("one too far back", three().frame(3, what), Due.NONE);
                due.is("the greatest int", three().frame(Integer.MAX_VALUE, what), Due.NONE);
            }
        });
    }
}
