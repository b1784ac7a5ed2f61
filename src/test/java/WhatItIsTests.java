/** "What it is": how often an object is called. */
final class WhatItIsTests {
    private static final String CALLS = "An object is used for at most 512 calls after it has been made";

    private WhatItIsTests() {
    }

    static void tests() {
        Heading h = new Heading("What it is");
        h.test(CALLS, "the 512th call of each act and text", due -> {
            last(due, "set", 0, x -> x.set(0, 0, 1));
            last(due, "fill", 144, x -> x.fill(0, 0, 12, 12, 1));
            last(due, "shift", 0, x -> x.shift(1, 0));
            last(due, "paint", -101, Calls::paint);
            last(due, "setNumber", 600, x -> x.setNumber(0, 9));
            last(due, "send", 9, x -> x.send(false));
            last(due, "sendKeyed", 594, x -> x.sendKeyed(false));
            last(due, "type", 2, x -> x.type('0'));
            last(due, "clearText", 1, Calls::clearText);
            last(due, "undo", 3, Calls::undo);
            last(due, "keep", 508, Calls::keep);
            last(due, "restore", 0, Calls::restore);
        });
        h.test(CALLS, "the 512th call of each one that tells something", due -> {
            last(due, "point", 0, x -> x.point(2, 11, 11));
            last(due, "difference", 0, x -> x.difference(0, 2, -1));
            last(due, "spiral", 102, x -> x.spiral(24, 0));
            last(due, "wouldCode", 1, x -> x.wouldCode(8, 0, 2));
            last(due, "wouldSpend", 9, x -> x.wouldSpend(0));
            last(due, "wouldNeed", 0, Calls::wouldNeed);
            last(due, "best", 0, x -> x.best(0, 0));
            last(due, "frame", 9, x -> x.frame(7, 0));
            last(due, "a frame that is not known", Due.NONE, x -> x.frame(8, 0));
            last(due, "sent", 0, x -> x.sent(7, 8));
            last(due, "count of frames", 508, x -> x.count(4));
            last(due, "count of bits", 508 * 9, x -> x.count(7));
        });
        h.test(CALLS, "as many acts as can be made, and the counts behind them", due -> {
            often(due, "set", 2, 1, x -> x.set(3, 3, x.made() % 2 + 1), x -> x.point(0, 3, 3));
            often(due, "fill", 144, 1, x -> x.fill(0, 0, 12, 12, x.made() % 2 + 1), x -> x.count(11) == 4 ? 1 : 0);
            often(due, "shift", 0, 4, x -> x.shift(1, 1), x -> x.count(11));
            often(due, "paint", -100, 0, Calls::paint, x -> x.count(11));
            often(due, "setNumber", 1, 0, x -> x.setNumber(2, x.made() % 2), x -> x.count(2));
            often(due, "send", 9, 511, x -> x.send(true), x -> x.count(6));
            often(due, "send and its bits", 9, 511 * 9, x -> x.send(false), x -> x.count(7));
            often(due, "frames since the beginning", 9, 511, x -> x.send(false), x -> x.count(8));
            often(due, "keep", 0, 0, Calls::keep, x -> x.count(11));
            often(due, "undo", Due.NONE, 0, Calls::undo, x -> x.count(11));
            often(due, "type", Due.FULL, 60, x -> x.type('s'), x -> x.count(12));
            often(due, "clearText", 0, 0, Calls::clearText, x -> x.count(12));
        });
        h.test(CALLS, "510 keyed frames, all of them counted", due -> {
            Run keyed = x -> {
                x.setNumber(0, 600);
                for (int i = 0; i < 510; i++) {
                    x.sendKeyed(i % 2 == 0);
                }
            };
            due.is("all frames", keyed.made().count(4), 510);
            due.is("keyed ones", keyed.made().count(5), 510);
            due.is("lost ones", keyed.made().count(6), 255);
            due.is("all bits", keyed.made().count(7), 510 * 594);
            due.is("what is saved", keyed.made().count(3), 600);
        });
        h.test(CALLS, "a snapshot that is taken at first is restored at last", due -> {
            Calls x = new Calls();
            x.set(5, 5, 5);
            x.keep();
            for (int i = 0; i < 508; i++) {
                x.set(5, 5, i % 5);
            }
            due.is("restore()", x.restore(), 0);
            due.is("the 512th call", x.point(0, 5, 5), 5);
            due.is("calls", x.made(), Calls.MOST);
        });
    }

    /** The call comes behind 511 others: 508 frames, a snapshot, a budget and a text. */
    private static void last(Due due, String call, int want, Due.ToInt made) {
        Calls x = new Calls();
        x.keep();
        x.type('s');
        x.setNumber(0, 600);
        for (int i = 0; i < 508; i++) {
            x.send(false);
        }
        due.is(call, made.of(x), want);
        due.is("calls", x.made(), Calls.MOST);
    }

    /** The call is made 511 times, of which the last one is asked, and then what it left. */
    private static void often(Due due, String call, int want, int left, Due.ToInt made, Due.ToInt told) {
        Calls x = new Calls();
        for (int i = 0; i < 510; i++) {
            made.of(x);
        }
        due.is(call, made.of(x), want);
        due.is("behind " + call, told.of(x), left);
        due.is("calls", x.made(), Calls.MOST);
    }
}
