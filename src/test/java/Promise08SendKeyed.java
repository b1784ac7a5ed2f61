/** Promise 8: sendKeyed. */
public final class Promise08SendKeyed {
    public static void main(String[] args) {
        Due due = new Due();
        SpiralFrames x = new SpiralFrames();
        x.fill(1, 1, 9, 9, 3);
        int[] before = Due.told(x);
        due.is("200 bits are too few", x.sendKeyed(false), Due.NOT_POSSIBLE);
        due.is("lost or not", x.sendKeyed(true), Due.NOT_POSSIBLE);
        due.are("nothing is changed", Due.told(x), before);
        x.setNumber(0, 593);
        due.is("593 bits are too few", x.sendKeyed(false), Due.NOT_POSSIBLE);
        x.setNumber(0, 594);
        due.is("594 are enough", x.sendKeyed(false), 594);
        due.is("saved", x.count(3), 0);
        due.are("the frame", new int[] {x.frame(0, 0), x.frame(0, 1), x.frame(0, 2), x.frame(0, 3), x.frame(0, 4), x.frame(0, 5),
            x.frame(0, 6), x.frame(0, 7)}, 594, Due.NONE, 1, 0, 0, 0, 9, 0);
        due.is("the sender has it", x.difference(0, 1, -1), 0);
        due.is("the receiver has it", x.difference(0, 2, -1), 0);
        x.setNumber(1, 240);
        x.set(0, 0, 1);
        due.is("the least tolerance does not matter; lost", x.sendKeyed(true), 594);
        due.is("the sender has it", x.difference(0, 1, -1), 0);
        due.is("the receiver does not", x.difference(0, 2, -1), 1);
        due.is("keyed", x.count(5), 2);
        due.is("lost ones", x.count(6), 1);
        due.is("since", x.count(8), 0);
        due.is("all bits", x.count(7), 1188);
        due.is("a tile that was equal is whole as well", x.sent(0, 8), 25);
        x.setNumber(0, 9);
        due.is("too few again", x.sendKeyed(true), Due.NOT_POSSIBLE);
        due.is("what was saved counts", saved(), 594);
        due.is("undo()", x.undo(), 3);
        due.is("undo()", x.undo(), 2);
        due.is("the frame is gone", x.count(5), 1);
        due.end();
    }

    private static int saved() {
        SpiralFrames x = new SpiralFrames();
        x.setNumber(0, 312);
        x.send(false);
        x.setNumber(0, 290);
        return x.count(3) == 303 && x.sendKeyed(false) == Due.NOT_POSSIBLE && x.setNumber(0, 291) == 290 ? x.sendKeyed(false) : 0;
    }
}
