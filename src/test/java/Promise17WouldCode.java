/** Promise 17: wouldCode(). How a tile is coded is tested under SENDING. */
final class Promise17WouldCode {
    private static final String TELLS = "Tells how a tile would be sent now by a frame that is not keyed.";
    private static final String PLACE = "1 for the place of the spiral (0 if it is skipped, NONE if it is sent whole)";
    private static final String LEFT = "3 for the difference that is left between the drawing and the screen of the sender";

    private Promise17WouldCode() {
    }

    /** The middle tile of 5 was sent, and then the drawing moved by 2 to the left and 1 up. */
    private static Calls moved() {
        Calls x = new Calls();
        x.setNumber(0, 600);
        x.fill(4, 4, 4, 4, 5);
        x.send(false);
        x.shift(-2, -1);
        return x;
    }

    static void tests() {
        Heading h = new Heading("Promise 17");
        tells(h);
        ranges(h);
        answers(h);
        errors(h);
    }

    private static void tells(Heading h) {
        h.test(TELLS, "as send() does it then, with the tolerance of each", due -> {
            for (int tolerance : new int[] {0, 9, 10, 14, 15, 19, 20, 29, 30, 49, 50, 240}) {
                Calls x = moved();
                x.setNumber(1, tolerance);
                int[] places = new int[9];
                int[] left = new int[9];
                for (int tile = 0; tile < 9; tile++) {
                    places[tile] = x.wouldCode(tile, tolerance, 1);
                    left[tile] = x.wouldCode(tile, tolerance, 3);
                }
                x.send(false);
                for (int tile = 0; tile < 9; tile++) {
                    due.is("tile " + tile + " with " + tolerance, x.sent(0, tile), places[tile] == Due.NONE ? 25 : places[tile]);
                    due.is("left of tile " + tile + " with " + tolerance, x.difference(0, 1, tile), left[tile]);
                }
            }
        });
        h.test("by a frame that is not keyed", "also if the next one is to be, and can be", due -> {
            Calls x = moved();
            x.setNumber(2, 1);
            due.is("the kind", x.wouldCode(4, 0, 0), 1);
            due.is("the next one is keyed", x.send(false), 594);
        });
        h.test(TELLS, "by the screen of the sender, not by that of the receiver", due -> {
            Calls x = new Calls();
            x.fill(0, 0, 4, 4, 5);
            x.send(true);
            int[] wants = {0, 0, 1, 0};
            for (int what = 0; what < 4; what++) {
                due.is("of what only the sender has, what " + what, x.wouldCode(0, 0, what), wants[what]);
            }
            x.set(0, 0, 6);
            due.is("what is left of it", x.wouldCode(0, 1, 3), 1);
            x.fill(0, 0, 4, 4, 0);
            due.is("of what only the receiver has", x.wouldCode(0, 0, 0), 2);
        });
        h.test(TELLS, "nothing is changed by it, and the settings do not matter", due -> {
            Run run = x -> Runs.rich(x);
            due.are("the state", Told.state(run.then(x -> x.wouldCode(0, 0, 0))), Told.state(run));
            Calls x = moved();
            x.setNumber(0, 9);
            x.setNumber(1, 240);
            due.is("the kind", x.wouldCode(4, 0, 0), 1);
        });
    }

    private static void ranges(Heading h) {
        h.test("- `tile`: a tile", "-1, 0, 8 and 9", due -> {
            for (int what = 0; what < 4; what++) {
                int of = what;
                due.range("tile", 0, 8, Due.UNKNOWN, tile -> moved().wouldCode(tile, 0, of));
            }
        });
        h.test("- `tolerance`: 0 to 240", "too small, the least, the greatest, too great", due -> {
            for (int what = 0; what < 4; what++) {
                int of = what;
                due.range("tolerance", 0, 240, Due.BAD_VALUE, tolerance -> moved().wouldCode(4, tolerance, of));
            }
        });
        h.test("- `what`: 0 for its kind", "too small, the least, the greatest, too great", due -> {
            due.range("what of a skipped tile", 0, 3, Due.BAD_VALUE, what -> moved().wouldCode(8, 0, what));
            due.range("what of a moved tile", 0, 3, Due.BAD_VALUE, what -> moved().wouldCode(4, 0, what));
        });
    }

    private static void answers(Heading h) {
        h.test("0 for its kind (0 skipped, 1 moved, 2 whole)", "each of them", due -> {
            due.is("skipped", moved().wouldCode(8, 0, 0), 0);
            due.is("moved", moved().wouldCode(4, 0, 0), 1);
            Calls x = moved();
            x.fill(8, 8, 4, 4, 15);
            due.is("whole", x.wouldCode(8, 0, 0), 2);
        });
        h.test(PLACE, "0, a place, the last place, NONE", due -> {
            due.is("skipped", moved().wouldCode(8, 0, 1), 0);
            due.is("skipped with a difference", moved().wouldCode(4, 50, 1), 0);
            due.is("the first place", moved().wouldCode(4, 49, 1), 1);
            due.is("a place", moved().wouldCode(4, 0, 1), 11);
            Calls x = new Calls();
            x.setNumber(0, 600);
            Runs.drawMiddle(x, 0);
            x.send(false);
            x.shift(-2, 2);
            due.is("the last place", x.wouldCode(4, 0, 1), 24);
            x.fill(4, 4, 4, 4, 15);
            due.is("whole", x.wouldCode(4, 0, 1), Due.NONE);
        });
        h.test("2 for its bits", "1, 3, 5, 7 and 66", due -> {
            due.is("skipped", moved().wouldCode(8, 0, 2), 1);
            due.is("the place 2", moved().wouldCode(4, 15, 2), 3);
            Calls x = new Calls();
            x.setNumber(0, 600);
            Runs.drawMiddle(x, 0);
            x.send(false);
            x.shift(-1, 1);
            due.is("the place 8", x.wouldCode(4, 0, 2), 5);
            due.is("the place 11", moved().wouldCode(4, 0, 2), 7);
            x.fill(4, 4, 4, 4, 15);
            due.is("whole", x.wouldCode(4, 0, 2), 66);
        });
        h.test(LEFT, "0 of a whole one; of others what is not more than the tolerance", due -> {
            due.is("skipped, the same", moved().wouldCode(8, 0, 3), 0);
            due.is("skipped, just so", moved().wouldCode(4, 50, 3), 50);
            due.is("skipped, with more than is needed", moved().wouldCode(4, 240, 3), 50);
            due.is("moved, just so", moved().wouldCode(4, 30, 3), 30);
            due.is("moved, with more than is needed", moved().wouldCode(4, 49, 3), 30);
            due.is("moved, the same", moved().wouldCode(4, 0, 3), 0);
            Calls x = new Calls();
            x.fill(4, 4, 4, 4, 15);
            due.is("whole", x.wouldCode(4, 239, 3), 0);
            due.is("skipped, the most", x.wouldCode(4, 240, 3), 240);
        });
    }

    private static void errors(Heading h) {
        h.test("Returns the number", "the same when it is asked again, behind another tile", due -> {
            Calls x = moved();
            due.is("tile 4", x.wouldCode(4, 0, 1), 11);
            due.is("tile 8", x.wouldCode(8, 0, 1), 0);
            due.is("tile 4 again", x.wouldCode(4, 0, 1), 11);
        });
        h.test("UNKNOWN", "no such tile", due -> {
            due.is("9", moved().wouldCode(9, 0, 0), Due.UNKNOWN);
            due.is("-1", moved().wouldCode(-1, 0, 3), Due.UNKNOWN);
        });
        h.test("BAD_VALUE", "no such tolerance, no such what, or neither", due -> {
            due.is("241", moved().wouldCode(0, 241, 0), Due.BAD_VALUE);
            due.is("-1", moved().wouldCode(0, -1, 0), Due.BAD_VALUE);
            due.is("what 4", moved().wouldCode(0, 0, 4), Due.BAD_VALUE);
            due.is("what -1", moved().wouldCode(0, 0, -1), Due.BAD_VALUE);
            due.is("neither", moved().wouldCode(8, 241, 4), Due.BAD_VALUE);
        });
    }
}
