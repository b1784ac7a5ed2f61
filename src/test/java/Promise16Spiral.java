/** Promise 16: spiral. */
public final class Promise16Spiral {
    public static void main(String[] args) {
        Due due = new Due();
        SpiralFrames x = new SpiralFrames();
        String right = "2332111234444321000001234";
        String down = "2233321111234444432100000";
        String bits = "1335555557777777777777777";
        for (int place = 0; place < 25; place++) {
            due.is("columns of " + place, x.spiral(place, 0), 100 - 2 + right.charAt(place) - '0');
            due.is("rows of " + place, x.spiral(place, 1), 100 - 2 + down.charAt(place) - '0');
            due.is("bits of " + place, x.spiral(place, 2), bits.charAt(place) - '0');
        }
        due.is("place -1", x.spiral(-1, 0), Due.UNKNOWN);
        due.is("place 25", x.spiral(25, 0), Due.UNKNOWN);
        due.is("what -1", x.spiral(0, -1), Due.BAD_VALUE);
        due.is("what 3", x.spiral(24, 3), Due.BAD_VALUE);
        due.is("no place ahead of a bad what", x.spiral(25, 3), Due.UNKNOWN);
        due.is("extremes", x.spiral(Integer.MIN_VALUE, Integer.MAX_VALUE), Due.UNKNOWN);
        due.end();
    }
}
