/** Promise 4: shift. */
public final class Promise04Shift {
    public static void main(String[] args) {
        Due due = new Due();
        SpiralFrames x = new SpiralFrames();
        due.is("an empty one", x.shift(3, 3), 0);
        x.set(2, 5, 6);
        x.set(11, 0, 3);
        due.is("to the right", x.shift(1, 0), 3);
        due.is("moved", x.point(0, 3, 5), 6);
        due.is("left", x.point(0, 2, 5), 0);
        due.is("gone at the right, and not come in at the left", x.point(0, 0, 0) + x.point(0, 0, 1), 0);
        due.is("down", x.shift(0, 2), 2);
        due.is("moved down", x.point(0, 3, 7), 6);
        due.is("left and up", x.shift(-3, -7), 2);
        due.is("moved to the corner", x.point(0, 0, 0), 6);
        due.is("to the other corner", x.shift(11, 11), 2);
        due.is("there", x.point(0, 11, 11), 6);
        due.is("by nothing", x.shift(0, 0), 0);
        due.is("and back", x.shift(-11, -11), 2);
        due.is("all of a level", x.fill(0, 0, 12, 12, 5), 144);
        due.is("points that come in are 0", x.shift(-2, 1), 12 + 2 * 11);
        due.is("the upper row", x.point(0, 0, 0), 0);
        due.is("the right columns", x.point(0, 10, 11), 0);
        due.is("what stays", x.point(0, 9, 1), 5);
        due.is("the screens are left", x.difference(1, 2, -1) + x.point(1, 9, 1), 0);
        int[] before = Due.told(x);
        due.is("columns 12", x.shift(12, 0), Due.BAD_VALUE);
        due.is("columns -12", x.shift(-12, 0), Due.BAD_VALUE);
        due.is("rows 12", x.shift(0, 12), Due.BAD_VALUE);
        due.is("rows -12", x.shift(0, -12), Due.BAD_VALUE);
        due.is("extremes", x.shift(Integer.MIN_VALUE, Integer.MAX_VALUE), Due.BAD_VALUE);
        due.are("nothing is changed", Due.told(x), before);
        due.is("by nothing is an act", x.shift(0, 0) + x.count(11), 4);
        due.end();
    }
}
