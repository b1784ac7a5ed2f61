/** LOG. */
final class LogTests {
    private static final String EIGHT = "The latest 8 frames are known.";

    private LogTests() {
    }

    static void tests() {
        Heading h = new Heading("LOG");
        h.test(EIGHT, "none, one, seven, eight, nine, and twice around", due -> {
            for (int frames : new int[] {0, 1, 2, 7, 8, 9, 15, 16, 17, 33}) {
                Calls x = sent(frames);
                for (int back = 0; back < 10; back++) {
                    boolean isKnown = back < 8 && back < frames;
                    int frame = frames - 1 - back;
                    due.is(frames + " frames, the tolerance " + back + " back", x.frame(back, 1), isKnown ? frame : Due.NONE);
                    due.is(frames + " frames, the bits " + back + " back", x.frame(back, 0), isKnown ? 9 : Due.NONE);
                    due.is(frames + " frames, a tile " + back + " back", x.sent(back, 4), isKnown ? 0 : Due.NONE);
                }
            }
        });
        h.test(EIGHT, "all that is known of each of them", due -> {
            for (int ahead = 0; ahead < 9; ahead++) {
                Calls x = sent(ahead);
                x.setNumber(0, 600);
                x.fill(4, 4, 4, 4, 15);
                x.setNumber(1, 0);
                x.send(true);
                x.sendKeyed(false);
                for (int i = 0; i < 6; i++) {
                    x.send(false);
                }
                all(due, "eighth back behind " + ahead, x, 7, 74, 0, 0, 1, 8, 0, 1, 0);
                due.is("its middle tile", x.sent(7, 4), 25);
                all(due, "seventh back behind " + ahead, x, 6, 594, Due.NONE, 1, 0, 0, 0, 9, 0);
                due.is("its last tile", x.sent(6, 8), 25);
                x.send(false);
                all(due, "eighth back then", x, 7, 594, Due.NONE, 1, 0, 0, 0, 9, 0);
            }
        });
        h.test(EIGHT, "as many as were known ahead of a frame that is undone", due -> {
            for (int frames : new int[] {1, 7, 8, 9, 16}) {
                Calls x = sent(frames);
                x.setNumber(1, 100);
                x.send(true);
                x.send(true);
                x.undo();
                x.undo();
                for (int back = 0; back < 10; back++) {
                    due.is(frames + " frames, " + back + " back", x.frame(back, 1), back < 8 && back < frames ? frames - 1 - back : Due.NONE);
                    due.is("none of them lost", x.frame(back, 3), back < 8 && back < frames ? 0 : Due.NONE);
                }
            }
        });
        h.test(EIGHT, "as many as were known when the snapshot was taken", due -> {
            for (int frames : new int[] {0, 1, 8, 9}) {
                Calls x = sent(frames);
                x.keep();
                x.setNumber(1, 100);
                for (int i = 0; i < 10; i++) {
                    x.send(true);
                }
                x.restore();
                for (int back = 0; back < 10; back++) {
                    due.is(frames + " frames, " + back + " back", x.frame(back, 1), back < 8 && back < frames ? frames - 1 - back : Due.NONE);
                }
            }
        });
    }

    /** Frames whose tolerances are 0, 1, 2 and so on. */
    private static Calls sent(int frames) {
        Calls x = new Calls();
        for (int i = 0; i < frames; i++) {
            x.setNumber(1, i);
            x.send(false);
        }
        return x;
    }

    private static void all(Due due, String which, Calls x, int back, int... wants) {
        for (int what = 0; what < 8; what++) {
            due.is(which + ", what " + what, x.frame(back, what), wants[what]);
        }
    }
}
