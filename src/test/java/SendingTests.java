/** SENDING: how tiles are coded, and with which tolerance. The budget and the period are in BudgetTests. */
final class SendingTests {
    private static final String SKIPPED = "a tile is skipped if the difference of the drawing's tile and the tile of the sender's "
        + "screen is at most the tolerance";
    private static final String FIRST = "otherwise it is moved by the first place of the spiral, from 1 on";
    private static final String WITHIN = "all 16 points are within the screen";
    private static final String AT_MOST = "and the difference of the drawing's tile and those points is at most the tolerance";
    private static final String BEFORE = "All of that is compared with the screen of the sender as it was before the frame.";
    private static final String BEHIND = "Behind the frame, the screen of the sender is what the codes give.";

    private SendingTests() {
    }

    static void tests(Heading h) {
        skipped(h);
        moved(h);
        within(h);
        whole(h);
        before(h);
        behind(h);
    }

    private static void code(Due due, Calls x, int tile, int tolerance, int... wants) {
        for (int what = 0; what < wants.length; what++) {
            due.is("wouldCode(" + tile + ", " + tolerance + ", " + what + ")", x.wouldCode(tile, tolerance, what), wants[what]);
        }
    }

    private static void skipped(Heading h) {
        h.test("Its tiles are coded in their order", "the codes are told by the numbers of the tiles", due -> {
            Calls x = new Calls();
            x.setNumber(0, 600);
            for (int tile = 0; tile < 9; tile += 2) {
                x.set(tile % 3 * 4 + 3, tile / 3 * 4, 1 + tile);
            }
            x.send(false);
            for (int tile = 0; tile < 9; tile++) {
                due.is("tile " + tile, x.sent(0, tile), tile % 2 == 0 ? 25 : 0);
            }
        });
        h.test(SKIPPED, "a difference that is the tolerance, and one more", due -> {
            for (int difference : new int[] {1, 2, 15}) {
                Calls x = new Calls();
                x.set(5, 6, difference);
                due.is("with the tolerance " + difference, x.wouldCode(4, difference, 0), 0);
                due.is("with one less", x.wouldCode(4, difference - 1, 0), 2);
                x.setNumber(1, difference);
                due.is("sent with the tolerance", x.send(false), 9);
                x.setNumber(1, difference - 1);
                due.is("sent with one less", x.send(false), 74);
            }
        });
        h.test(SKIPPED, "with 0, only a tile that is the same", due -> {
            Calls x = new Calls();
            code(due, x, 8, 0, 0, 0, 1, 0);
            x.set(11, 11, 1);
            code(due, x, 8, 0, 2, Due.NONE, 66, 0);
        });
        h.test(SKIPPED, "though a place of the spiral is nearer, or the same", due -> {
            Calls x = new Calls();
            x.setNumber(0, 600);
            x.set(5, 5, 4);
            x.send(false);
            x.shift(-1, -1);
            code(due, x, 4, 7, 1, 2, 3, 0);
            code(due, x, 4, 8, 0, 0, 1, 8);
        });
    }

    private static void moved(Heading h) {
        h.test(FIRST, "of several places that will do, though a later one is nearer", due -> {
            Calls x = new Calls();
            x.setNumber(0, 600);
            x.fill(4, 4, 4, 4, 5);
            x.send(false);
            x.shift(-2, -1);
            code(due, x, 4, 0, 1, 11, 7, 0);
            code(due, x, 4, 9, 1, 11, 7, 0);
            code(due, x, 4, 10, 1, 10, 7, 10);
            code(due, x, 4, 14, 1, 10, 7, 10);
            code(due, x, 4, 15, 1, 2, 3, 15);
            code(due, x, 4, 29, 1, 2, 3, 15);
            code(due, x, 4, 30, 1, 1, 3, 30);
            code(due, x, 4, 49, 1, 1, 3, 30);
            code(due, x, 4, 50, 0, 0, 1, 50);
        });
        h.test(FIRST, "each of them can be the first, the place 24 too", due -> {
            for (int place = 1; place <= 24; place++) {
                Calls x = new Calls();
                x.setNumber(0, 600);
                Runs.drawMiddle(x, 0);
                x.send(false);
                x.shift(-Runs.PLACES[place][0], -Runs.PLACES[place][1]);
                code(due, x, 4, 0, 1, place, Runs.bits(place), 0);
            }
        });
        h.test(AT_MOST, "a difference that is the tolerance, and one more", due -> {
            Calls x = new Calls();
            x.setNumber(0, 600);
            Runs.drawMiddle(x, 0);
            x.send(false);
            x.shift(-1, 0);
            x.set(4, 4, x.point(0, 4, 4) > 7 ? x.point(0, 4, 4) - 3 : x.point(0, 4, 4) + 3);
            code(due, x, 4, 3, 1, 1, 3, 3);
            code(due, x, 4, 2, 2, Due.NONE, 66, 0);
            x.setNumber(1, 3);
            x.send(false);
            due.is("sent with the tolerance", x.sent(0, 4), 1);
            x.undo();
            x.setNumber(1, 2);
            x.send(false);
            due.is("sent with one less", x.sent(0, 4), 25);
        });
    }

    private static void within(Heading h) {
        h.test(WITHIN, "each tile and each place: it is moved where they are, and nowhere else", due -> {
            for (int place = 1; place <= 24; place++) {
                Calls x = new Calls();
                x.setNumber(0, 600);
                Runs.drawAll(x, 0);
                x.send(false);
                x.shift(-Runs.PLACES[place][0], -Runs.PLACES[place][1]);
                for (int tile = 0; tile < 9; tile++) {
                    due.is("tile " + tile + ", place " + place, x.wouldCode(tile, 0, 1), Runs.isWithin(tile, place) ? place : Due.NONE);
                }
            }
        });
        h.test(WITHIN, "points beyond it are not taken for empty ones, at any of the four edges", due -> {
            // The tile of 5 was sent; its drawing is moved out by one, so that beyond the edge an empty row would fit.
            edge(due, 3, 1, 0, 1);
            edge(due, 5, -1, 0, 5);
            edge(due, 1, 0, 1, 3);
            edge(due, 7, 0, -1, 7);
        });
        h.test(WITHIN, "nor are those of the other side of the screen", due -> {
            // The column 11 is as what would come in, in the same rows, and then in the rows above, which lie ahead of them.
            for (int up = 0; up <= 1; up++) {
                Calls x = new Calls();
                x.setNumber(0, 600);
                x.fill(0, 4, 3, 4, 5);
                x.fill(11, 4 - up, 1, 4, 6);
                x.send(false);
                x.fill(0, 4, 4, 4, 5);
                x.fill(0, 4, 1, 4, 6);
                due.is("rows up: " + up, x.wouldCode(3, 0, 1), Due.NONE);
            }
        });
    }

    /** Sends the tile with one level, and draws it with an empty line at its inner side, as if it were moved outward. */
    private static void edge(Due due, int tile, int right, int down, int inward) {
        Calls x = new Calls();
        x.setNumber(0, 600);
        int left = tile % 3 * 4;
        int top = tile / 3 * 4;
        x.fill(left, top, 4, 4, 5);
        x.send(false);
        x.shift(-right, -down);
        due.is("tile " + tile + " is moved from within", x.wouldCode(tile, 0, 1), inward);
        x.fill(0, 0, 12, 12, 0);
        x.fill(left, top, 4, 4, 5);
        x.fill(right < 0 ? left + 3 : left, down < 0 ? top + 3 : top, right == 0 ? 4 : 1, down == 0 ? 4 : 1, 0);
        due.is("tile " + tile + " is not moved from beyond", x.wouldCode(tile, 0, 1), Due.NONE);
    }

    private static void whole(Heading h) {
        h.test("otherwise it is sent whole", "where no place will do", due -> {
            Calls x = new Calls();
            x.fill(4, 4, 4, 4, 15);
            code(due, x, 4, 0, 2, Due.NONE, 66, 0);
            code(due, x, 4, 239, 2, Due.NONE, 66, 0);
            code(due, x, 4, 240, 0, 0, 1, 240);
        });
        h.test("A keyed frame has all tiles whole.", "those that are the same as well", due -> {
            Calls x = new Calls();
            x.setNumber(0, 600);
            x.set(6, 6, 1);
            x.sendKeyed(false);
            for (int tile = 0; tile < 9; tile++) {
                due.is("tile " + tile, x.sent(0, tile), 25);
            }
            due.is("whole tiles", x.frame(0, 6), 9);
            due.is("nothing is left, whatever the least tolerance", x.difference(0, 1, -1), 0);
        });
        h.test("A keyed frame has all tiles whole.", "whatever the least tolerance is, and for one that the period asks for", due -> {
            Calls x = new Calls();
            x.setNumber(0, 600);
            x.setNumber(1, 240);
            x.setNumber(2, 1);
            x.fill(0, 0, 12, 12, 3);
            due.is("the first one", x.send(false), 9);
            due.is("the keyed one", x.send(false), 594);
            due.is("the last tile", x.sent(0, 8), 25);
            due.is("both screens are drawn", x.difference(0, 1, -1) + x.difference(0, 2, -1), 0);
        });
    }

    private static void before(Heading h) {
        h.test(BEFORE, "not with what an earlier tile of the same frame gives", due -> {
            // The second tile, moved by 2 to the left, would be found where the first one has just been put.
            Calls x = new Calls();
            x.fill(2, 0, 4, 4, 5);
            x.send(false);
            due.is("the first tile", x.sent(0, 0), 25);
            due.is("the second tile", x.sent(0, 1), 25);
        });
        h.test(BEFORE, "also where an earlier tile of the same frame has gone over it", due -> {
            // The second tile is found 2 to the left, where the first one is empty behind the frame.
            Calls x = new Calls();
            x.fill(2, 0, 4, 4, 5);
            x.send(false);
            x.fill(0, 0, 4, 4, 0);
            x.fill(4, 0, 4, 4, 5);
            x.send(false);
            due.is("the first tile", x.sent(0, 0), 25);
            due.is("the second tile", x.sent(0, 1), 18);
            due.is("the sender has it", x.difference(0, 1, -1), 0);
            due.is("the receiver has it", x.difference(0, 2, -1), 0);
        });
        h.test(BEFORE, "not with that of the receiver", due -> {
            Calls x = new Calls();
            x.fill(0, 0, 4, 4, 5);
            x.send(true);
            due.is("the sender has it, though the receiver does not", x.send(false), 9);
            due.is("wouldSpend", x.wouldSpend(0), 9);
            due.is("wouldCode", x.wouldCode(0, 0, 0), 0);
            due.is("best", x.best(0, 1), 0);
            x.fill(0, 0, 4, 4, 0);
            due.is("wouldCode", x.wouldCode(0, 0, 0), 2);
            due.is("the receiver has it, though the sender does not", x.send(false), 74);
        });
        h.test(BEFORE, "not with the drawing as it was", due -> {
            Calls x = new Calls();
            x.fill(0, 0, 4, 4, 5);
            x.fill(0, 0, 4, 4, 0);
            due.is("nothing was sent of it", x.send(false), 9);
        });
    }

    /** The middle tile is sent whole, or is found by the place 2; the others are 16 away, and skipped with 16. */
    private static Calls skippedAround(boolean isWhole) {
        Calls x = new Calls();
        x.setNumber(0, 600);
        if (!isWhole) {
            Runs.drawMiddle(x, 0);
            x.fill(4, 8, 5, 1, 15);
            x.fill(8, 4, 1, 5, 15);
            x.send(false);
            x.shift(-1, -1);
        }
        x.fill(0, 0, 12, 4, 1);
        x.fill(0, 4, 4, 4, 1);
        x.fill(8, 4, 4, 4, 1);
        x.fill(0, 8, 12, 4, 1);
        if (isWhole) {
            x.fill(4, 4, 4, 4, 15);
        } else {
            x.fill(4, 8, 5, 1, 14);
            x.fill(8, 4, 1, 5, 14);
        }
        x.setNumber(1, 16);
        x.send(false);
        return x;
    }

    private static void behind(Heading h) {
        h.test(BEHIND, "a skipped tile stays, a moved one is what was found, a whole one is the drawing", due -> {
            Calls x = new Calls();
            x.setNumber(0, 600);
            x.fill(4, 4, 4, 4, 5);
            x.fill(0, 0, 4, 4, 2);
            x.send(false);
            x.shift(-1, 0);
            x.fill(0, 0, 4, 4, 2);
            x.set(1, 1, 5);
            x.set(5, 5, 8);
            x.fill(8, 8, 4, 4, 1);
            x.setNumber(1, 3);
            x.send(false);
            due.is("the first tile", x.sent(0, 0), 0);
            due.is("the middle tile", x.sent(0, 4), 1);
            due.is("the last tile", x.sent(0, 8), 25);
            due.is("the drawing's point is not sent", x.point(1, 1, 1), 2);
            due.is("nor that of the moved tile", x.point(1, 5, 5), 5);
            due.is("the empty column came with it", x.point(1, 7, 7), 0);
            due.is("the whole one is", x.point(1, 11, 11), 1);
            due.is("what is left of the first tile", x.difference(0, 1, 0), 3);
            due.is("what is left of the middle tile", x.difference(0, 1, 4), 3);
            due.is("what is left of all", x.frame(0, 7), x.difference(0, 1, -1));
        });
        h.test(BEHIND, "no point of a skipped tile changes, whatever the tiles around it get", due -> {
            for (int picture = 1; picture <= 2; picture++) {
                int[] points = Told.points(skippedAround(true), picture);
                for (int i = 0; i < 144; i++) {
                    due.is("a whole tile, picture " + picture + ", point " + i, points[i], Runs.tileOf(i % 12, i / 12) == 4 ? 15 : 0);
                }
                points = Told.points(skippedAround(false), picture);
                for (int i = 0; i < 144; i++) {
                    boolean isInside = Runs.tileOf(i % 12, i / 12) == 4;
                    int around = i / 12 == 8 && i % 12 >= 4 && i % 12 <= 8 || i % 12 == 8 && i / 12 >= 4 && i / 12 <= 8 ? 15 : 0;
                    due.is("a moved tile, picture " + picture + ", point " + i, points[i],
                        !isInside ? around : i % 12 == 7 || i / 12 == 7 ? 15 : Runs.level(0, i % 12 - 3, i / 12 - 3));
                }
            }
        });
        h.test(BEHIND, "of a lost frame too", due -> {
            Calls x = new Calls();
            x.fill(4, 4, 4, 4, 5);
            x.send(true);
            due.is("the sender", x.difference(0, 1, -1), 0);
            due.is("the receiver", x.difference(0, 2, -1), 80);
        });
    }
}
