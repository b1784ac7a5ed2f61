/** Promise 5: paint(). What a text may say is tested under TEXTS. */
final class Promise05Paint {
    private static final String DOES = "Does the orders of the text, which stays, one after the other.";
    private static final String FAULT = "-100 minus the fault of the text if it has one (which is an error)";
    private static final String FIRST = "otherwise, of the first order for which it is so, the error that fill() or shift() returns";

    private Promise05Paint() {
    }

    static void tests() {
        Heading h = new Heading("Promise 5");
        does(h);
        oneAct(h);
        answers(h);
        errors(h);
        nothing(h);
    }

    private static void does(Heading h) {
        h.test(DOES, "a box ahead of a step is moved, one behind it is not", due -> {
            Calls x = new Calls().text("b1,2,3,4=5;s-1,2;b0,4,1,1=6");
            due.is("three orders", x.paint(), 3);
            due.is("filled behind the step", x.point(0, 0, 4), 6);
            due.is("moved to the left and down", x.point(0, 2, 7), 5);
            due.is("moved away", x.point(0, 3, 4), 0);
            due.is("no row further down", x.point(0, 0, 8), 0);
        });
        h.test(DOES, "the same as fill() and shift() one after the other", due -> {
            Run painted = x -> x.text("b0,0,6,6=9;s3,-2;b2,1,12,3=4;s-4,5;b11,11,1,1=1").paint();
            Run done = x -> {
                x.fill(0, 0, 6, 6, 9);
                x.shift(3, -2);
                x.fill(2, 1, 12, 3, 4);
                x.shift(-4, 5);
                x.fill(11, 11, 1, 1, 1);
            };
            due.are("the drawing", Told.points(painted.made(), 0), Told.points(done.made(), 0));
        });
        h.test("which stays", "it can be painted again", due -> {
            Calls x = new Calls().text("b1,2,3,4=5;s0,1");
            x.paint();
            due.is("the length", x.count(12), 15);
            due.is("paint()", x.paint(), 2);
            due.is("moved once more", x.point(0, 1, 7), 5);
            due.is("moved down with it", x.point(0, 1, 2), 0);
        });
        h.test("Does the orders of the text", "the last of twelve too, and none of a text that was", due -> {
            Calls x = new Calls();
            x.set(0, 0, 9);
            x.text(Runs.TWELVE_ORDERS.replaceFirst("0,0$", "1,0")).paint();
            due.is("the twelfth is done", x.point(0, 1, 0), 9);
            x.text("s0,0").paint();
            due.is("no order of the longer one", x.point(0, 1, 0), 9);
        });
        h.test("Does the orders of the text", "whatever kind of order stood at the place of each in a text that was", due -> {
            Calls x = new Calls();
            due.is("steps", x.text("s1,1;s1,1;s1,1").paint(), 3);
            due.is("boxes", x.text("b5,6,1,1=9;b7,7,1,2=3;b0,0,2,1=1").paint(), 3);
            due.is("the first box", x.point(0, 5, 6), 9);
            due.is("the second box", x.point(0, 7, 8), 3);
            due.is("the third box", x.point(0, 1, 0), 1);
            due.is("steps again", x.text("s1,1;s1,1;s1,1").paint(), 3);
            due.is("the first box is moved", x.point(0, 8, 9), 9);
            due.is("all that is drawn", x.difference(0, 1, -1), 9 + 3 + 3 + 1 + 1);
        });
    }

    private static void oneAct(Heading h) {
        h.test("This is one act.", "of three orders", due -> {
            Calls x = new Calls();
            x.set(0, 0, 1);
            x.text("b0,0,4,4=7;s1,1;b3,3,9,9=2");
            x.paint();
            due.is("states", x.count(11), 2);
            due.is("undo()", x.undo(), 1);
            due.is("the point ahead", x.point(0, 0, 0), 1);
            due.is("and no other", x.difference(0, 1, -1), 1);
        });
        h.test("This is one act.", "also of orders that change nothing", due -> {
            Calls x = new Calls().text("s0,0");
            x.paint();
            due.is("states", x.count(11), 1);
        });
    }

    private static void answers(Heading h) {
        h.test("Returns how many there are", "one and twelve, of one kind or both", due -> {
            TextsTests.painted(due, "s0,0", 1);
            TextsTests.painted(due, "b0,0,1,1=0", 1);
            TextsTests.painted(due, "s0,0;b0,0,1,1=0", 2);
            TextsTests.painted(due, Runs.TWELVE_ORDERS, 12);
        });
        h.test(FAULT, "the least fault, the greatest, and one between", due -> {
            TextsTests.painted(due, "", -100);
            TextsTests.painted(due, "x", -100);
            TextsTests.painted(due, "s0,0,", -104);
            TextsTests.painted(due, Runs.TWELVE_ORDERS + ";", -160);
        });
        h.test(FAULT, "ahead of an error of an order", due -> TextsTests.painted(due, "s12,0;b12,0,0,0=16;", -119));
    }

    private static void errors(Heading h) {
        h.test(FIRST, "those of fill()", due -> {
            TextsTests.painted(due, "b11,11,12,12=15", 1);
            TextsTests.painted(due, "b12,0,1,1=1", Due.UNKNOWN);
            TextsTests.painted(due, "b0,12,1,1=1", Due.UNKNOWN);
            TextsTests.painted(due, "b0,99,0,0=99", Due.UNKNOWN);
            TextsTests.painted(due, "b0,0,0,1=1", Due.BAD_VALUE);
            TextsTests.painted(due, "b0,0,13,1=1", Due.BAD_VALUE);
            TextsTests.painted(due, "b0,0,1,0=1", Due.BAD_VALUE);
            TextsTests.painted(due, "b0,0,1,13=1", Due.BAD_VALUE);
            TextsTests.painted(due, "b0,0,1,1=16", Due.BAD_VALUE);
        });
        h.test(FIRST, "those of shift()", due -> {
            TextsTests.painted(due, "s11,-11", 1);
            TextsTests.painted(due, "s12,0", Due.BAD_VALUE);
            TextsTests.painted(due, "s-12,0", Due.BAD_VALUE);
            TextsTests.painted(due, "s0,12", Due.BAD_VALUE);
            TextsTests.painted(due, "s0,-99", Due.BAD_VALUE);
        });
        h.test("of the first order for which it is so", "not of the last, nor the worst", due -> {
            TextsTests.painted(due, "s0,0;s12,0;b12,0,1,1=1", Due.BAD_VALUE);
            TextsTests.painted(due, "s0,0;b12,0,1,1=1;s12,0", Due.UNKNOWN);
            TextsTests.painted(due, "b0,0,1,1=1;b0,0,1,1=16;b12,0,1,1=1;s0,0", Due.BAD_VALUE);
            TextsTests.painted(due, Runs.TWELVE_ORDERS.replaceFirst("0,0$", "99,9"), Due.BAD_VALUE);
        });
    }

    private static void nothing(Heading h) {
        h.test("(then nothing is done)", "none of the orders ahead of it", due -> {
            Run rich = x -> Runs.rich(x);
            due.changesNothing("paint()", rich.then(x -> x.text("b0,0,4,4=7;s1,1;b12,0,1,1=1")), Due.UNKNOWN, Calls::paint);
            due.changesNothing("paint()", rich.then(x -> x.text("b0,0,4,4=7;s1,12;b1,1,1,1=1")), Due.BAD_VALUE, Calls::paint);
            due.changesNothing("paint()", rich.then(x -> x.text("b0,0,4,4=7;s1,1;")), -116, Calls::paint);
        });
    }
}
