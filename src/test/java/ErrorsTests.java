/** ERRORS: which of several is answered, and that a refused call changes nothing. */
final class ErrorsTests {
    private static final String CONSTANTS = "Errors are reported by the constants below.";
    private static final String ORDER =
        "Where several errors can apply, the order of the @return line is the order of the checks.";
    private static final String NONE = "NONE is no error; it is returned only if no error applies.";
    private static final String NOTHING = "A call that returns an error or NONE changes nothing.";

    private ErrorsTests() {
    }

    static void tests() {
        Heading h = new Heading("ERRORS");
        constants(h);
        order(h);
        none(h);
        nothing(h);
    }

    private static void constants(Heading h) {
        h.test(CONSTANTS, "their numbers", due -> {
            due.is("UNKNOWN", SpiralFrames.UNKNOWN, -1);
            due.is("BAD_VALUE", SpiralFrames.BAD_VALUE, -2);
            due.is("FULL", SpiralFrames.FULL, -3);
            due.is("NOT_POSSIBLE", SpiralFrames.NOT_POSSIBLE, -4);
            due.is("NONE", SpiralFrames.NONE, -5);
        });
        h.test("`UNKNOWN = -1`: There is no such picture, tile, point or place.", "one of each", due -> {
            due.is("picture", new Calls().point(3, 0, 0), -1);
            due.is("tile", new Calls().best(9, 0), -1);
            due.is("point", new Calls().set(12, 0, 0), -1);
            due.is("place", new Calls().spiral(25, 0), -1);
        });
        h.test("`BAD_VALUE = -2`: Another argument is out of range.", "one of them",
            due -> due.is("level", new Calls().set(0, 0, 16), -2));
        h.test("`FULL = -3`: There is no more room.", "the text",
            due -> due.is("the 61st character", full().type('x'), -3));
        h.test("`NOT_POSSIBLE = -4`: This is not possible.", "a keyed frame",
            due -> due.is("of a new object", new Calls().sendKeyed(false), -4));
        h.test("`NONE = -5`: There is no such thing; not an error.", "one of them",
            due -> due.is("a frame", new Calls().frame(0, 0), -5));
    }

    private static Calls full() {
        return new Calls().text(Runs.TWELVE_ORDERS + ";");
    }

    private static void order(Heading h) {
        h.test(ORDER, "set: UNKNOWN; BAD_VALUE", due -> {
            due.is("column", new Calls().set(12, 0, 16), Due.UNKNOWN);
            due.is("row", new Calls().set(0, -1, -1), Due.UNKNOWN);
        });
        h.test(ORDER, "fill: UNKNOWN; BAD_VALUE", due -> {
            due.is("column and columns", new Calls().fill(-1, 0, 0, 1, 1), Due.UNKNOWN);
            due.is("row and columns", new Calls().fill(0, 12, 13, 1, 1), Due.UNKNOWN);
            due.is("row and rows", new Calls().fill(0, -1, 1, 0, 1), Due.UNKNOWN);
            due.is("column and level", new Calls().fill(12, 0, 1, 1, 16), Due.UNKNOWN);
            due.is("all of them", new Calls().fill(12, 12, 13, 13, 16), Due.UNKNOWN);
        });
        h.test(ORDER, "paint: the fault; the error of the first order that has one", due -> {
            TextsTests.painted(due, "b12,0,1,1=1;s0,0;", -117);
            TextsTests.painted(due, "b12,0,1,1=1;s12,0", Due.UNKNOWN);
            TextsTests.painted(due, "s12,0;b12,0,1,1=1", Due.BAD_VALUE);
            TextsTests.painted(due, "b0,0,0,1=1;b12,0,1,1=1", Due.BAD_VALUE);
            TextsTests.painted(due, "s0,0;b0,12,13,1=99;s12,0", Due.UNKNOWN);
        });
        h.test(ORDER, "spiral: UNKNOWN; BAD_VALUE", due -> {
            due.is("place 25, what 3", new Calls().spiral(25, 3), Due.UNKNOWN);
            due.is("place -1, what -1", new Calls().spiral(-1, -1), Due.UNKNOWN);
        });
        h.test(ORDER, "wouldCode: UNKNOWN; BAD_VALUE", due -> {
            due.is("tile and tolerance", new Calls().wouldCode(9, 241, 0), Due.UNKNOWN);
            due.is("tile and what", new Calls().wouldCode(-1, 0, 4), Due.UNKNOWN);
            due.is("all of them", new Calls().wouldCode(9, -1, -1), Due.UNKNOWN);
        });
        h.test(ORDER, "best: UNKNOWN; BAD_VALUE", due -> {
            due.is("tile 9, what 2", new Calls().best(9, 2), Due.UNKNOWN);
            due.is("tile -1, what -1", new Calls().best(-1, -1), Due.UNKNOWN);
        });
        h.test(ORDER, "sent: BAD_VALUE; UNKNOWN; NONE", due -> {
            due.is("back -1, tile 9", new Calls().sent(-1, 9), Due.BAD_VALUE);
            due.is("back -1, tile -1", new Calls().sent(-1, -1), Due.BAD_VALUE);
            due.is("no such frame, tile 9", new Calls().sent(0, 9), Due.UNKNOWN);
            due.is("no such frame, tile -1", new Calls().sent(8, -1), Due.UNKNOWN);
            due.is("no such frame", new Calls().sent(0, 8), Due.NONE);
        });
        h.test(ORDER, "frame: BAD_VALUE; NONE", due -> {
            due.is("no such frame, what 8", new Calls().frame(0, 8), Due.BAD_VALUE);
            due.is("no such frame, what -1", new Calls().frame(8, -1), Due.BAD_VALUE);
            due.is("back -1", new Calls().frame(-1, 0), Due.BAD_VALUE);
        });
    }

    private static void none(Heading h) {
        h.test(NONE, "what is so already, with an argument out of range", due -> {
            due.is("a level beyond the drawing", new Calls().set(12, 0, 0), Due.UNKNOWN);
            due.is("no such number", new Calls().setNumber(3, 0), Due.BAD_VALUE);
            due.is("the fourth number", new Calls().setNumber(-1, 200), Due.BAD_VALUE);
        });
        h.test(NONE, "a frame that is not, with an argument out of range", due -> {
            due.is("frame(0, 8)", new Calls().frame(0, 8), Due.BAD_VALUE);
            due.is("sent(0, 9)", new Calls().sent(0, 9), Due.UNKNOWN);
        });
        h.test(NONE, "the place of a tile that is sent whole, with an argument out of range", due -> {
            Calls x = new Calls();
            x.fill(0, 0, 12, 12, 9);
            due.is("it has none", x.wouldCode(0, 0, 1), Due.NONE);
            due.is("no such tile", x.wouldCode(9, 0, 1), Due.UNKNOWN);
            due.is("no such tolerance", x.wouldCode(0, -1, 1), Due.BAD_VALUE);
        });
    }

    private static void nothing(Heading h) {
        Run rich = x -> Runs.rich(x);
        h.test(NOTHING, "set", due -> {
            due.changesNothing("column 12", rich, Due.UNKNOWN, x -> x.set(12, 0, 1));
            due.changesNothing("row -1", rich, Due.UNKNOWN, x -> x.set(1, -1, 1));
            due.changesNothing("level 16", rich, Due.BAD_VALUE, x -> x.set(1, 1, 16));
            due.changesNothing("so already", rich, Due.NONE, x -> x.set(0, 0, 15));
        });
        h.test(NOTHING, "fill", due -> {
            due.changesNothing("column -1", rich, Due.UNKNOWN, x -> x.fill(-1, 0, 4, 4, 1));
            due.changesNothing("row 12", rich, Due.UNKNOWN, x -> x.fill(0, 12, 4, 4, 1));
            due.changesNothing("columns 13", rich, Due.BAD_VALUE, x -> x.fill(0, 0, 13, 4, 1));
            due.changesNothing("rows 0", rich, Due.BAD_VALUE, x -> x.fill(0, 0, 4, 0, 1));
            due.changesNothing("level -1", rich, Due.BAD_VALUE, x -> x.fill(0, 0, 4, 4, -1));
        });
        h.test(NOTHING, "shift", due -> {
            due.changesNothing("columns 12", rich, Due.BAD_VALUE, x -> x.shift(12, 1));
            due.changesNothing("rows -12", rich, Due.BAD_VALUE, x -> x.shift(1, -12));
        });
        h.test(NOTHING, "paint", due -> {
            painted(due, rich, "", -100);
            painted(due, rich, "b0,0,4,4=7;", -111);
            painted(due, rich, "b0,0,4,4=7;x", -111);
            painted(due, rich, "b0,0,4,4=7;b12,0,1,1=1", Due.UNKNOWN);
            painted(due, rich, "b0,0,4,4=7;s1,1;s12,0", Due.BAD_VALUE);
            painted(due, rich, "s2,2;b0,0,4,4=16", Due.BAD_VALUE);
        });
        h.test(NOTHING, "setNumber", due -> {
            due.changesNothing("what 3", rich, Due.BAD_VALUE, x -> x.setNumber(3, 10));
            due.changesNothing("what -1", rich, Due.BAD_VALUE, x -> x.setNumber(-1, 10));
            due.changesNothing("budget 601", rich, Due.BAD_VALUE, x -> x.setNumber(0, 601));
            due.changesNothing("least tolerance 241", rich, Due.BAD_VALUE, x -> x.setNumber(1, 241));
            due.changesNothing("period -1", rich, Due.BAD_VALUE, x -> x.setNumber(2, -1));
            due.changesNothing("so already", rich, Due.NONE, x -> x.setNumber(2, 40));
        });
        h.test(NOTHING, "sendKeyed", due -> {
            Run few = rich.then(x -> x.setNumber(0, 9)).then(x -> x.sendKeyed(false));
            due.changesNothing("too few bits", few, Due.NOT_POSSIBLE, x -> x.sendKeyed(false));
            due.changesNothing("too few bits, lost", few, Due.NOT_POSSIBLE, x -> x.sendKeyed(true));
        });
        h.test(NOTHING, "type", due -> {
            Run sixty = rich.then(x -> x.text(Runs.TWELVE_ORDERS.replaceFirst("s0,0$", "s-1,1")));
            due.changesNothing("no room", sixty, Due.FULL, x -> x.type('1'));
            due.changesNothing("no room for any character", sixty, Due.FULL, x -> x.type((char) 0));
        });
        h.test(NOTHING, "undo", due -> {
            due.changesNothing("no history", x -> x.text("s1,1"), Due.NONE, Calls::undo);
            Run undone = rich.then(Calls::undo).then(Calls::undo).then(Calls::undo).then(Calls::undo);
            due.changesNothing("no more history", undone, Due.NONE, Calls::undo);
        });
        h.test(NOTHING, "restore", due -> {
            Run drawn = x -> {
                x.fill(1, 1, 5, 5, 5);
                x.send(true);
                x.set(0, 0, 1);
            };
            due.changesNothing("no snapshot", drawn, Due.NONE, Calls::restore);
        });
        h.test(NOTHING, "calls that tell something", due -> {
            due.changesNothing("point", rich, Due.UNKNOWN, x -> x.point(3, 0, 0));
            due.changesNothing("difference", rich, Due.UNKNOWN, x -> x.difference(0, 1, 9));
            due.changesNothing("spiral", rich, Due.BAD_VALUE, x -> x.spiral(24, 3));
            due.changesNothing("wouldCode", rich, Due.BAD_VALUE, x -> x.wouldCode(0, 241, 0));
            due.changesNothing("wouldSpend", rich, Due.BAD_VALUE, x -> x.wouldSpend(241));
            due.changesNothing("best", rich, Due.BAD_VALUE, x -> x.best(0, 2));
            due.changesNothing("frame", rich, Due.NONE, x -> x.frame(8, 0));
            due.changesNothing("sent", rich, Due.NONE, x -> x.sent(8, 0));
            due.changesNothing("count", rich, Due.BAD_VALUE, x -> x.count(13));
        });
    }

    private static void painted(Due due, Run rich, String text, int want) {
        due.changesNothing("paint() of " + text, rich.then(x -> x.text(text)), want, Calls::paint);
    }
}
