/** Promise 1: three empty pictures. */
public final class Promise01NewObject {
    public static void main(String[] args) {
        Due due = new Due();
        SpiralFrames x = new SpiralFrames();
        int[] empty = new int[3 * 144 + 13 + 10 * 17];
        java.util.Arrays.fill(empty, 3 * 144 + 13, empty.length, Due.NONE);
        empty[3 * 144] = 200;
        due.are("all that a new object tells", Due.told(x), empty);
        for (int picture = 0; picture < 3; picture++) {
            for (int other = 0; other < 3; other++) {
                due.is("difference of empty pictures", x.difference(picture, other, -1), 0);
            }
        }
        due.is("wouldNeed()", x.wouldNeed(), 0);
        due.is("wouldSpend(0)", x.wouldSpend(0), 9);
        due.is("undo()", x.undo(), Due.NONE);
        due.is("restore()", x.restore(), Due.NONE);
        due.is("paint()", x.paint(), -100);
        SpiralFrames other = new SpiralFrames();
        other.set(1, 1, 1);
        due.is("another object's point", x.point(0, 1, 1), 0);
        due.end();
    }
}
