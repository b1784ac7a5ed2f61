/** SENDING: what a frame can spend, what is saved, the tolerance that grows, and frames that are keyed. */
final class BudgetTests {
    private static final String BUDGET =
        "There is a budget (9 to 600 bits, at first 200), and bits that were saved (0 at first, at most 600).";
    private static final String SPEND = "A frame can spend the budget and what was saved.";
    private static final String LEAST = "It is sent with the least tolerance, of the least one (0 to 240, at first 0) and each one more "
        + "than it, with which it does not spend more.";
    private static final String KEYED = "A keyed frame can only be sent if 594 bits are not more than can be spent.";
    private static final String PERIOD = "Every so many frames (the period: 0 to 50, at first 0; 0 means never) a frame is to be keyed";
    private static final String MORE =
        "if as many frames or more have been sent behind the latest keyed one (or since the beginning), the next frame is keyed";

    private BudgetTests() {
    }

    static void tests(Heading h) {
        budget(h);
        tolerance(h);
        keyed(h);
        saved(h);
        period(h);
        sinceKeyed(h);
        canBe(h);
    }

    private static void budget(Heading h) {
        h.test(BUDGET, "at first", due -> {
            due.is("the budget", new Calls().count(0), 200);
            due.is("what was saved", new Calls().count(3), 0);
            due.is("200 is so already", new Calls().setNumber(0, 200), Due.NONE);
        });
        h.test("a budget (9 to 600 bits", "8, 9, 600 and 601", due -> {
            due.is("8", new Calls().setNumber(0, 8), Due.BAD_VALUE);
            due.is("9", new Calls().setNumber(0, 9), 200);
            due.is("600", new Calls().setNumber(0, 600), 200);
            due.is("601", new Calls().setNumber(0, 601), Due.BAD_VALUE);
        });
        h.test(SPEND, "as many bits as both together, and one less", due -> {
            for (int saved = 0; saved <= 64; saved += 16) {
                Calls x = Runs.saved(saved, 74 - saved);
                x.set(0, 0, 9);
                due.is("what is saved", x.count(3), saved);
                due.is("with 74 bits", x.send(false), 74);
                due.is("nothing is left", x.count(3), 0);
                Calls y = Runs.saved(saved, 73 - saved);
                y.set(0, 0, 9);
                due.is("with 73 bits", y.send(false), 9);
                due.is("64 are left", y.count(3), 64);
            }
        });
        h.test(SPEND, "1200 at most", due -> {
            Calls x = Runs.saved(600, 600);
            due.is("saved", x.count(3), 600);
            due.is("594 of them", x.sendKeyed(false), 594);
            due.is("606 are left, of which 600 are saved", x.count(3), 600);
        });
    }

    private static void tolerance(Heading h) {
        h.test(LEAST, "bits that are just enough, and one less", due -> {
            Calls x = new Calls();
            x.fill(0, 0, 4, 4, 1);
            x.fill(4, 0, 4, 4, 2);
            x.fill(8, 0, 4, 4, 3);
            int[] budgets = {204, 203, 139, 138, 74, 73, 9};
            int[] needs = {0, 16, 16, 32, 32, 48, 48};
            int[] spends = {204, 139, 139, 74, 74, 9, 9};
            for (int i = 0; i < budgets.length; i++) {
                x.setNumber(0, budgets[i]);
                due.is("needed with the budget " + budgets[i], x.wouldNeed(), needs[i]);
                due.is("spent with the budget " + budgets[i], x.send(false), spends[i]);
                due.is("its tolerance", x.frame(0, 1), needs[i]);
                x.undo();
            }
        });
        h.test(LEAST, "from the least one on, even if a smaller one would do", due -> {
            Calls x = new Calls();
            x.fill(0, 0, 4, 4, 2);
            x.setNumber(0, 73);
            x.setNumber(1, 31);
            due.is("31 is less than is needed", x.wouldNeed(), 32);
            x.setNumber(1, 32);
            due.is("32 is what is needed", x.wouldNeed(), 32);
            x.setNumber(1, 33);
            due.is("33 is more than is needed", x.wouldNeed(), 33);
            x.send(false);
            due.is("and is used", x.frame(0, 1), 33);
        });
        h.test("(0 to 240, at first 0)", "-1, 0, 240 and 241", due -> {
            due.is("at first", new Calls().count(1), 0);
            due.is("-1", new Calls().setNumber(1, -1), Due.BAD_VALUE);
            due.is("0", new Calls().setNumber(1, 0), Due.NONE);
            due.is("240", new Calls().setNumber(1, 240), 0);
            due.is("241", new Calls().setNumber(1, 241), Due.BAD_VALUE);
        });
        h.test("each one more than it", "every tolerance from 1 to 240 can be the one", due -> {
            for (int tolerance = 1; tolerance <= 240; tolerance++) {
                Calls x = new Calls();
                x.setNumber(0, 9);
                for (int row = 0; row < 4; row++) {
                    int levels = Math.max(0, Math.min(60, tolerance - row * 60));
                    x.fill(4, row, Math.max(1, levels / 15), 1, levels >= 15 ? 15 : 0);
                    if (levels / 15 < 4) {
                        x.set(4 + levels / 15, row, levels % 15);
                    }
                }
                due.is("the difference", x.difference(0, 1, 1), tolerance);
                due.is("needed", x.wouldNeed(), tolerance);
                due.is("spent", x.send(false), 9);
                due.is("tolerance of the frame", x.frame(0, 1), tolerance);
            }
        });
        h.test("(With 240 all tiles are skipped.)", "and with 239 a tile that is 240 away is not", due -> {
            Calls x = new Calls();
            x.fill(0, 0, 12, 12, 15);
            due.is("wouldSpend(240)", x.wouldSpend(240), 9);
            due.is("wouldSpend(239)", x.wouldSpend(239), 594);
            x.setNumber(1, 240);
            due.is("send(false)", x.send(false), 9);
            due.is("skipped tiles", x.frame(0, 4), 9);
            due.is("nothing is put on the screen", x.point(1, 0, 0), 0);
        });
        h.test("(With 240 all tiles are skipped.)", "so the least budget is always enough", due -> {
            Calls x = new Calls();
            x.setNumber(0, 9);
            x.fill(0, 0, 12, 12, 15);
            due.is("wouldNeed()", x.wouldNeed(), 240);
            due.is("send(false)", x.send(false), 9);
            due.is("its tolerance", x.frame(0, 1), 240);
            due.is("nothing is saved", x.count(3), 0);
        });
    }

    private static void keyed(Heading h) {
        h.test(KEYED, "593 and 594 bits of the budget", due -> {
            due.is("593", Runs.saved(0, 593).sendKeyed(false), Due.NOT_POSSIBLE);
            due.is("594", Runs.saved(0, 594).sendKeyed(false), 594);
        });
        h.test(KEYED, "593 and 594 bits with those that were saved", due -> {
            due.is("593", Runs.saved(303, 290).sendKeyed(false), Due.NOT_POSSIBLE);
            due.is("594", Runs.saved(303, 291).sendKeyed(false), 594);
            due.is("593, most of them saved", Runs.saved(584, 9).sendKeyed(true), Due.NOT_POSSIBLE);
            due.is("594, most of them saved", Runs.saved(585, 9).sendKeyed(true), 594);
        });
        h.test(KEYED, "593 and 594 bits when the period asks for one", due -> {
            for (int bits = 593; bits <= 594; bits++) {
                Calls x = Runs.saved(500, bits - 500);
                x.setNumber(2, 1);
                due.is("with " + bits, x.send(false), bits == 593 ? 9 : 594);
                due.is("keyed", x.frame(0, 2), bits - 593);
                due.is("saved", x.count(3), bits == 593 ? 584 : 0);
            }
        });
    }

    private static void saved(Heading h) {
        String words = "Behind a frame, what could be spent less what it spent is saved";
        h.test(words, "of a frame of each kind", due -> {
            Calls x = new Calls();
            x.send(false);
            due.is("200 less 9", x.count(3), 191);
            x.set(0, 0, 1);
            x.send(true);
            due.is("391 less 74", x.count(3), 317);
            x.setNumber(0, 300);
            x.sendKeyed(false);
            due.is("617 less 594", x.count(3), 23);
            x.setNumber(0, 9);
            x.send(false);
            due.is("32 less 9", x.count(3), 23);
        });
        h.test(words, "all of it is spent, and nothing is saved", due -> {
            Calls x = Runs.saved(0, 9);
            x.send(false);
            due.is("9 less 9", x.count(3), 0);
            Calls y = Runs.saved(0, 594);
            y.sendKeyed(false);
            due.is("594 less 594", y.count(3), 0);
        });
        h.test("but at most 600", "599, 600 and 601 bits that are left", due -> {
            for (int left = 599; left <= 602; left++) {
                Calls x = Runs.saved(left - 591, 600);
                x.send(false);
                due.is(left + " left", x.count(3), Math.min(600, left));
            }
        });
        h.test("but at most 600", "also behind more frames, lost or keyed", due -> {
            Calls x = Runs.saved(600, 600);
            x.send(true);
            due.is("a lost one", x.count(3), 600);
            x.sendKeyed(false);
            due.is("a keyed one", x.count(3), 600);
            x.setNumber(0, 9);
            x.send(false);
            due.is("600 and 9 less 9", x.count(3), 600);
            x.sendKeyed(false);
            due.is("609 less 594", x.count(3), 15);
        });
    }

    private static void period(Heading h) {
        h.test(PERIOD, "-1, 0, 50 and 51", due -> {
            due.is("at first", new Calls().count(2), 0);
            due.is("-1", new Calls().setNumber(2, -1), Due.BAD_VALUE);
            due.is("0", new Calls().setNumber(2, 0), Due.NONE);
            due.is("50", new Calls().setNumber(2, 50), 0);
            due.is("51", new Calls().setNumber(2, 51), Due.BAD_VALUE);
        });
        h.test("0 means never", "at first, and when it is set again", due -> {
            Calls x = Runs.saved(0, 600);
            for (int i = 0; i < 60; i++) {
                due.is("frame " + i, x.send(false), 9);
            }
            x.setNumber(2, 1);
            due.is("with the period 1", x.send(false), 594);
            x.setNumber(2, 0);
            for (int i = 0; i < 60; i++) {
                due.is("frame " + i, x.send(false), 9);
            }
            due.is("keyed ones", x.count(5), 1);
        });
        h.test(PERIOD, "so many frames that are not keyed lie between two that are", due -> {
            for (int period : new int[] {1, 2, 3, 7, 49, 50}) {
                Calls x = Runs.saved(0, 600);
                x.setNumber(2, period);
                for (int frame = 1; frame <= 2 * period + 3; frame++) {
                    boolean isKeyed = frame % (period + 1) == 0;
                    due.is("period " + period + ", frame " + frame, x.send(frame % 3 == 0), isKeyed ? 594 : 9);
                    due.is("frames since then", x.count(8), frame % (period + 1));
                }
            }
        });
    }

    private static void sinceKeyed(Heading h) {
        h.test(MORE, "one frame less than the period, as many, and more", due -> {
            for (int sent = 4; sent <= 7; sent++) {
                Calls x = Runs.saved(0, 600);
                for (int i = 0; i < sent; i++) {
                    x.send(false);
                }
                x.setNumber(2, 5);
                due.is("behind " + sent + " frames", x.send(false), sent < 5 ? 9 : 594);
            }
        });
        h.test("behind the latest keyed one", "which may be one that was asked for, and may be lost", due -> {
            Calls x = Runs.saved(0, 600);
            x.setNumber(2, 2);
            x.send(false);
            x.sendKeyed(true);
            due.is("none behind it", x.count(8), 0);
            due.is("the first one", x.send(false), 9);
            due.is("the second one", x.send(false), 9);
            due.is("the third one", x.send(false), 594);
        });
        h.test("(or since the beginning)", "lost frames among them, and no frame at all", due -> {
            Calls x = Runs.saved(0, 600);
            x.setNumber(2, 1);
            due.is("no frame has been sent", x.count(8), 0);
            due.is("the first frame", x.send(true), 9);
            due.is("one has been sent", x.count(8), 1);
            due.is("the second frame", x.send(false), 594);
        });
        h.test(MORE, "frames that are undone have not been sent", due -> {
            Calls x = Runs.saved(0, 600);
            x.setNumber(2, 2);
            x.send(false);
            x.send(false);
            x.undo();
            due.is("the second frame", x.send(false), 9);
            due.is("the third frame", x.send(false), 594);
            x.undo();
            due.is("the third frame again", x.send(false), 594);
        });
    }

    private static void canBe(Heading h) {
        h.test("if it can be; otherwise it is sent as other ones", "with the tolerance that it needs, until one can be keyed", due -> {
            Calls x = Runs.saved(0, 9);
            x.setNumber(2, 1);
            x.fill(0, 0, 4, 4, 2);
            x.send(false);
            x.setNumber(0, 65);
            due.is("sent as other ones", x.send(false), 9);
            due.is("its tolerance", x.frame(0, 1), 32);
            due.is("it is not keyed", x.frame(0, 2), 0);
            due.is("frames since the beginning", x.count(8), 2);
            due.is("saved", x.count(3), 56);
            due.is("with what was saved", x.send(false), 74);
            due.is("its tolerance", x.frame(0, 1), 0);
            x.setNumber(0, 600);
            due.is("the next one can be keyed", x.send(false), 594);
            due.is("and is", x.frame(0, 2), 1);
            due.is("none since then", x.count(8), 0);
        });
        h.test("otherwise it is sent as other ones", "one that is not keyed spends what it needs, not 594", due -> {
            Calls x = Runs.saved(0, 593);
            x.send(false);
            x.setNumber(2, 1);
            x.fill(0, 0, 12, 12, 1);
            x.setNumber(0, 9);
            due.is("593 bits are too few for nine whole tiles", x.wouldNeed(), 16);
            due.is("so they are skipped", x.send(false), 9);
        });
    }
}
