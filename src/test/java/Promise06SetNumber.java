/** Promise 6: setNumber. */
public final class Promise06SetNumber {
    public static void main(String[] args) {
        Due due = new Due();
        SpiralFrames x = new SpiralFrames();
        int[] firsts = {200, 0, 0};
        int[] lowest = {9, 0, 0};
        int[] highest = {600, 240, 50};
        for (int what = 0; what < 3; what++) {
            due.is("the first one of " + what, x.setNumber(what, firsts[what]), Due.NONE);
            due.is("the highest of " + what, x.setNumber(what, highest[what]), firsts[what]);
            due.is("count of " + what, x.count(what), highest[what]);
            due.is("the lowest of " + what, x.setNumber(what, lowest[what]), highest[what]);
            int[] before = Due.told(x);
            due.is("the same of " + what, x.setNumber(what, lowest[what]), Due.NONE);
            due.is("below of " + what, x.setNumber(what, lowest[what] - 1), Due.BAD_VALUE);
            due.is("above of " + what, x.setNumber(what, highest[what] + 1), Due.BAD_VALUE);
            due.is("extremes of " + what, x.setNumber(what, Integer.MIN_VALUE), Due.BAD_VALUE);
            due.are("nothing is changed", Due.told(x), before);
        }
        int[] before = Due.told(x);
        due.is("no such number", x.setNumber(3, 10), Due.BAD_VALUE);
        due.is("no such number either", x.setNumber(-1, 10), Due.BAD_VALUE);
        due.are("nothing is changed", Due.told(x), before);
        due.is("states", x.count(11), 4);
        due.is("undo()", x.undo(), 3);
        due.is("the period that was", x.count(2), 50);
        due.end();
    }
}
