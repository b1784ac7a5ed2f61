/** Promise 22: sent(). */
final class Promise22Sent {
    private static final String BACK = "- `back`: 0 for the latest frame, 1 for the one before, and so on";

    private Promise22Sent() {
    }

    /** A frame with a whole tile, one with four moved ones, a keyed one, and one whose tiles are all skipped. */
    private static Calls four() {
        Calls x = new Calls();
        x.setNumber(0, 600);
        x.fill(4, 4, 4, 4, 5);
        x.send(false);
        x.shift(-1, -1);
        x.send(true);
        x.sendKeyed(true);
        x.send(false);
        return x;
    }

    private static void sent(Due due, int back, int... wants) {
        for (int tile = 0; tile < 9; tile++) {
            due.is("sent(" + back + ", " + tile + ")", four().sent(back, tile), wants[tile]);
        }
    }

    static void tests() {
        Heading h = new Heading("Promise 22");
        h.test(BACK, "the latest, the first, and one more", due -> {
            sent(due, 0, 0, 0, 0, 0, 0, 0, 0, 0, 0);
            sent(due, 1, 25, 25, 25, 25, 25, 25, 25, 25, 25);
            sent(due, 2, 2, 2, 0, 2, 2, 0, 0, 0, 0);
            sent(due, 3, 0, 0, 0, 0, 25, 0, 0, 0, 0);
            sent(due, 4, Due.NONE, Due.NONE, Due.NONE, Due.NONE, Due.NONE, Due.NONE, Due.NONE, Due.NONE, Due.NONE);
        });
        h.test(BACK, "7 and 8 of more frames than are known", due -> {
            Calls x = four();
            for (int i = 0; i < 4; i++) {
                x.send(false);
            }
            due.is("7 of eight", x.sent(7, 4), 25);
            due.is("8 of eight", x.sent(8, 4), Due.NONE);
            x.send(false);
            due.is("7 of nine", x.sent(7, 4), 2);
            due.is("8 of nine", x.sent(8, 4), Due.NONE);
        });
        h.test("- `tile`: a tile", "-1, 0, 8 and 9", due -> {
            due.range("tile", 0, 8, Due.UNKNOWN, tile -> four().sent(0, tile));
            due.range("tile of the first frame", 0, 8, Due.UNKNOWN, tile -> four().sent(3, tile));
            due.range("tile of no frame", 0, 8, Due.UNKNOWN, tile -> four().sent(4, tile));
        });
        h.test("Returns how it was sent in that frame: 0 if it was skipped, the place of the spiral if it was moved, 25 if it was sent whole",
            "every place from 0 to 25", due -> {
                for (int place = 0; place <= 25; place++) {
                    Calls x = new Calls();
                    x.setNumber(0, 600);
                    Runs.drawMiddle(x, 0);
                    x.send(false);
                    if (place < 25) {
                        x.shift(-Runs.PLACES[place][0], -Runs.PLACES[place][1]);
                    } else {
                        x.fill(4, 4, 4, 4, 15);
                    }
                    x.send(false);
                    due.is("place " + place, x.sent(0, 4), place);
                    due.is("a tile that is the same", x.sent(1, 8), 0);
                    due.is("the frame before", x.sent(1, 4), 25);
                }
            });
        h.test("in that frame", "nothing that is drawn or sent behind it changes it", due -> {
            Calls x = four();
            x.fill(0, 0, 12, 12, 7);
            due.is("behind drawing", x.sent(0, 0), 0);
            x.send(false);
            due.is("behind a frame", x.sent(1, 0), 0);
            due.is("this frame", x.sent(0, 0), 25);
        });
        h.test("BAD_VALUE if back is negative", "-1, the least int, with no frame, and with no tile", due -> {
            due.is("-1", four().sent(-1, 0), Due.BAD_VALUE);
            due.is("the least int", four().sent(Integer.MIN_VALUE, 8), Due.BAD_VALUE);
            due.is("no frame", new Calls().sent(-1, 0), Due.BAD_VALUE);
            due.is("no tile", four().sent(-1, 9), Due.BAD_VALUE);
        });
        h.test("UNKNOWN (tile)", "with a frame and with none", due -> {
            due.is("9", four().sent(0, 9), Due.UNKNOWN);
            due.is("-1", four().sent(0, -1), Due.UNKNOWN);
            due.is("no frame", new Calls().sent(0, 9), Due.UNKNOWN);
            due.is("the greatest ints", four().sent(Integer.MAX_VALUE, Integer.MAX_VALUE), Due.UNKNOWN);
        });
        h.test("NONE if there is no such frame", "no frame yet, one too far back, and the greatest int", due -> {
            for (int tile = 0; tile < 9; tile++) {
                due.is("no frame yet", new Calls().sent(0, tile), Due.NONE);
                due.is("one too far back", four().sent(4, tile), Due.NONE);
                due.is("the greatest int", four().sent(Integer.MAX_VALUE, tile), Due.NONE);
            }
        });
    }
}
