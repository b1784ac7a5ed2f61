/** Promise 2: set. */
public final class Promise02Set {
    public static void main(String[] args) {
        Due due = new Due();
        SpiralFrames x = new SpiralFrames();
        due.is("set(0, 0, 15)", x.set(0, 0, 15), 0);
        due.is("set(0, 0, 4)", x.set(0, 0, 4), 15);
        due.is("set(11, 3, 7)", x.set(11, 3, 7), 0);
        due.is("point(0, 11, 3)", x.point(0, 11, 3), 7);
        due.is("point(0, 3, 11)", x.point(0, 3, 11), 0);
        due.is("set(11, 11, 1)", x.set(11, 11, 1), 0);
        due.is("set(11, 11, 0)", x.set(11, 11, 0), 1);
        due.is("the screens are left", x.difference(1, 2, -1) + x.point(1, 0, 0), 0);
        due.is("states", x.count(11), 4);
        int[] before = Due.told(x);
        due.is("as it is already", x.set(11, 3, 7), Due.NONE);
        due.is("0 as it is already", x.set(5, 5, 0), Due.NONE);
        due.is("column -1", x.set(-1, 0, 1), Due.UNKNOWN);
        due.is("column 12", x.set(12, 0, 1), Due.UNKNOWN);
        due.is("row -1", x.set(0, -1, 1), Due.UNKNOWN);
        due.is("row 12", x.set(0, 12, 1), Due.UNKNOWN);
        due.is("level -1", x.set(0, 0, -1), Due.BAD_VALUE);
        due.is("level 16", x.set(0, 0, 16), Due.BAD_VALUE);
        due.is("no point ahead of a bad level", x.set(12, 0, 16), Due.UNKNOWN);
        due.is("extremes", x.set(Integer.MAX_VALUE, Integer.MIN_VALUE, 0), Due.UNKNOWN);
        due.are("nothing is changed", Due.told(x), before);
        due.end();
    }
}
