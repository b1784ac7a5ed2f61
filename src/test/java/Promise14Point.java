/** Promise 14: point. */
public final class Promise14Point {
    public static void main(String[] args) {
        Due due = new Due();
        SpiralFrames x = new SpiralFrames();
        x.setNumber(0, 600);
        x.set(11, 2, 4);
        x.send(false);
        x.set(11, 2, 5);
        x.send(true);
        x.set(11, 2, 6);
        due.are("the three pictures", new int[] {x.point(0, 11, 2), x.point(1, 11, 2), x.point(2, 11, 2)}, 6, 5, 4);
        due.are("columns and rows", new int[] {x.point(0, 2, 11), x.point(1, 2, 11), x.point(2, 2, 11)}, 0, 0, 0);
        due.is("the first point", x.point(0, 0, 0), 0);
        due.is("the last point", x.point(2, 11, 11), 0);
        due.is("picture -1", x.point(-1, 0, 0), Due.UNKNOWN);
        due.is("picture 3", x.point(3, 0, 0), Due.UNKNOWN);
        due.is("column -1", x.point(0, -1, 0), Due.UNKNOWN);
        due.is("column 12", x.point(0, 12, 0), Due.UNKNOWN);
        due.is("row -1", x.point(0, 0, -1), Due.UNKNOWN);
        due.is("row 12", x.point(0, 0, 12), Due.UNKNOWN);
        due.is("extremes", x.point(Integer.MIN_VALUE, Integer.MAX_VALUE, Integer.MAX_VALUE), Due.UNKNOWN);
        due.end();
    }
}
