/** Promise 3: fill. */
public final class Promise03Fill {
    public static void main(String[] args) {
        Due due = new Due();
        SpiralFrames x = new SpiralFrames();
        due.is("fill(2, 3, 4, 2, 9)", x.fill(2, 3, 4, 2, 9), 8);
        due.is("inside", x.point(0, 5, 4), 9);
        due.is("left of it", x.point(0, 1, 3), 0);
        due.is("right of it", x.point(0, 6, 3), 0);
        due.is("above it", x.point(0, 2, 2), 0);
        due.is("below it", x.point(0, 2, 5), 0);
        due.is("only other points count", x.fill(1, 3, 3, 1, 9), 1);
        due.is("none is different", x.fill(2, 3, 4, 2, 9), 0);
        due.is("which is an act", x.count(11), 3);
        due.is("beyond the drawing", x.fill(10, 11, 12, 12, 15), 2);
        due.is("the row behind is left", x.point(0, 0, 11), 0);
        due.is("all of it", x.fill(0, 0, 12, 12, 0), 11);
        due.is("all again", x.fill(0, 0, 12, 12, 1), 144);
        due.is("the least box at the end", x.fill(11, 11, 1, 1, 2), 1);
        due.is("level 0", x.fill(0, 0, 1, 12, 0), 12);
        int[] before = Due.told(x);
        due.is("column -1", x.fill(-1, 0, 1, 1, 1), Due.UNKNOWN);
        due.is("column 12", x.fill(12, 0, 1, 1, 1), Due.UNKNOWN);
        due.is("row -1", x.fill(0, -1, 1, 1, 1), Due.UNKNOWN);
        due.is("row 12", x.fill(0, 12, 1, 1, 1), Due.UNKNOWN);
        due.is("columns 0", x.fill(0, 0, 0, 1, 1), Due.BAD_VALUE);
        due.is("columns 13", x.fill(0, 0, 13, 1, 1), Due.BAD_VALUE);
        due.is("rows 0", x.fill(0, 0, 1, 0, 1), Due.BAD_VALUE);
        due.is("rows 13", x.fill(0, 0, 1, 13, 1), Due.BAD_VALUE);
        due.is("level -1", x.fill(0, 0, 1, 1, -1), Due.BAD_VALUE);
        due.is("level 16", x.fill(0, 0, 1, 1, 16), Due.BAD_VALUE);
        due.is("no point ahead of bad ones", x.fill(0, 12, 0, 13, 16), Due.UNKNOWN);
        due.is("extremes", x.fill(11, 11, Integer.MAX_VALUE, 1, 1), Due.BAD_VALUE);
        due.are("nothing is changed", Due.told(x), before);
        due.end();
    }
}
