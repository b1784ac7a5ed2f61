/** Promise 7: send. */
public final class Promise07Send {
    private static final Due DUE = new Due();

    public static void main(String[] args) {
        budget();
        wholeScreenBeforeTheFrame();
        firstPlaceOfTheSpiral();
        skippedAheadOfAnExactPlace();
        toleranceGrows();
        lost();
        period();
        DUE.end();
    }

    private static void budget() {
        SpiralFrames x = new SpiralFrames();
        DUE.is("nothing to send", x.send(false), 9);
        DUE.is("saved", x.count(3), 191);
        x.fill(0, 0, 12, 12, 8);
        DUE.is("391 bits can be spent, and all tiles cost 594", x.wouldNeed(), 128);
        DUE.is("all are skipped then", x.send(false), 9);
        DUE.is("tolerance", x.frame(0, 1), 128);
        DUE.is("saved", x.count(3), 382);
        x.setNumber(0, 212);
        DUE.is("594 bits are just enough", x.send(false), 594);
        DUE.is("with no tolerance", x.frame(0, 1), 0);
        DUE.is("which is not a keyed frame", x.frame(0, 2) + x.count(5), 0);
        DUE.is("nothing is saved", x.count(3), 0);
        x.setNumber(0, 600);
        x.send(false);
        DUE.is("saved", x.count(3), 591);
        x.send(false);
        DUE.is("at most 600 are saved", x.count(3), 600);
        x.setNumber(0, 9);
        DUE.is("all is spent", x.send(false), 9);
        DUE.is("600 stay", x.count(3), 600);
    }

    /** Both tiles are found on the screen as it was, whatever the first one puts there. */
    private static void wholeScreenBeforeTheFrame() {
        SpiralFrames x = new SpiralFrames();
        x.setNumber(0, 600);
        Due.type(x, "b0,0,4,4=1;b4,0,4,4=2;b8,0,4,4=3;b1,1,1,1=9;b5,2,1,1=8");
        DUE.is("paint()", x.paint(), 5);
        DUE.is("three tiles whole", x.send(false), 3 * 66 + 6);
        DUE.is("shift(-2, 0)", x.shift(-2, 0) > 0 ? 1 : 0, 1);
        DUE.is("two tiles moved by 2 to the right, the place 10; the third is not found", x.send(false), 7 + 7 + 66 + 6);
        DUE.is("the first tile", x.sent(0, 0), 10);
        DUE.is("the second tile", x.sent(0, 1), 10);
        DUE.is("the third tile", x.sent(0, 2), 25);
        DUE.is("the drawing and the sender", x.difference(0, 1, -1), 0);
        DUE.is("the drawing and the receiver", x.difference(0, 2, -1), 0);
    }

    private static void firstPlaceOfTheSpiral() {
        int[][] steps = {{0, 1, 3, 5}, {1, 1, 2, 3}, {-1, 0, 5, 5}, {2, 2, 12, 7}, {-2, -2, 20, 7}, {2, -2, 24, 7}, {1, 0, 1, 3}, {-1, 2, 15, 7}};
        for (int[] step : steps) {
            SpiralFrames x = new SpiralFrames();
            x.setNumber(0, 600);
            for (int i = 0; i < 16; i++) {
                x.set(4 + i % 4, 4 + i / 4, 1 + i % 15);
            }
            x.send(false);
            x.shift(-step[0], -step[1]);
            DUE.is("found at the place " + step[2], x.wouldCode(4, 0, 1), step[2]);
            x.send(false);
            DUE.is("sent by the place " + step[2], x.sent(0, 4), step[2]);
            DUE.is("bits of a tile by the place " + step[2], x.wouldCode(4, 0, 2), 1);
            DUE.is("spiral of the place " + step[2], x.spiral(step[2], 2), step[3]);
            DUE.is("the receiver has it too", x.difference(0, 2, -1), 0);
        }
    }

    /** Of a tolerance above 0, the first place that is good enough is taken, not the best. */
    private static void skippedAheadOfAnExactPlace() {
        SpiralFrames x = new SpiralFrames();
        x.setNumber(0, 600);
        x.set(5, 5, 4);
        x.send(false);
        x.shift(-1, -1);
        DUE.is("with 0 it is moved", x.wouldCode(4, 0, 1), 2);
        DUE.is("with 7 as well", x.wouldCode(4, 7, 1), 2);
        DUE.is("with 8 it is skipped", x.wouldCode(4, 8, 1), 0);
        x.setNumber(1, 8);
        DUE.is("send(false)", x.send(false), 9);
        DUE.is("the least tolerance is used though 0 would do", x.frame(0, 1), 8);
        DUE.is("the screen stays", x.difference(0, 1, -1), 8);
        DUE.is("left behind it", x.frame(0, 7), 8);
    }

    private static void toleranceGrows() {
        SpiralFrames x = new SpiralFrames();
        x.fill(0, 0, 4, 4, 1);
        x.fill(4, 0, 4, 4, 2);
        x.fill(8, 0, 4, 4, 3);
        x.setNumber(0, 73);
        DUE.is("three tiles cost too much", x.wouldSpend(0), 204);
        DUE.is("two do, until 31", x.wouldSpend(31), 139);
        DUE.is("one", x.wouldSpend(32), 74);
        DUE.is("73 are not 74", x.wouldNeed(), 48);
        x.setNumber(0, 74);
        DUE.is("74 are", x.wouldNeed(), 32);
        DUE.is("send(false)", x.send(false), 74);
        DUE.is("tolerance", x.frame(0, 1), 32);
        DUE.is("nothing is saved", x.count(3), 0);
        x.setNumber(1, 100);
        DUE.is("the least tolerance is not a greatest one", x.send(true), 9);
        DUE.is("tolerance", x.frame(0, 1), 100);
    }

    private static void lost() {
        SpiralFrames x = new SpiralFrames();
        x.setNumber(0, 600);
        x.fill(0, 0, 4, 4, 5);
        x.send(false);
        x.fill(0, 0, 4, 4, 7);
        DUE.is("lost", x.send(true), 74);
        DUE.is("the sender has it", x.difference(0, 1, -1), 0);
        DUE.is("the receiver does not", x.difference(1, 2, -1), 32);
        DUE.is("all points of the tile", x.count(9), 16);
        DUE.is("one tile", x.count(10), 1);
        x.shift(1, 0);
        DUE.is("the second tile is moved", x.send(false), 66 + 5 + 7);
        DUE.is("the sender takes one column of 7", x.difference(0, 1, -1), 0);
        DUE.is("the receiver takes one of 5", x.point(2, 4, 0), 5);
        DUE.is("the screens drift apart", x.count(9), 4);
        x.fill(4, 4, 4, 4, 9);
        x.set(5, 5, 1);
        x.send(true);
        x.shift(-1, 0);
        x.send(false);
        DUE.is("the middle tile is moved", x.sent(0, 4), 1);
        DUE.is("the sender knows it", x.difference(0, 1, 4), 0);
        DUE.is("the receiver moves what it has", x.point(2, 4, 5), 0);
        x.setNumber(2, 1);
        x.send(false);
        DUE.is("a keyed frame brings them together", x.count(9), 0);
        DUE.is("lost frames", x.count(6), 2);
    }

    private static void period() {
        SpiralFrames x = new SpiralFrames();
        x.setNumber(0, 600);
        for (int i = 0; i < 3; i++) {
            DUE.is("0 means never", x.send(false), 9);
        }
        x.setNumber(2, 4);
        DUE.is("three are not four", x.send(false), 9);
        DUE.is("four are", x.send(false), 594);
        DUE.is("none since", x.count(8), 0);
        x.setNumber(0, 9);
        x.setNumber(2, 1);
        DUE.is("not ahead of one frame", x.sendKeyed(true), 594);
        x.send(false);
        DUE.is("it can't be keyed", x.count(3), 15);
        DUE.is("so it is sent as other ones", x.send(false), 9);
        DUE.is("frames since", x.count(8), 2);
        x.setNumber(0, 578);
        DUE.is("593 are not enough", x.send(false), 9);
        x.undo();
        x.setNumber(0, 579);
        DUE.is("594 are", x.send(true), 594);
        DUE.is("a lost one is keyed as well", x.frame(0, 2) + x.frame(0, 3), 2);
        DUE.is("nothing is saved", x.count(3), 0);
    }
}
