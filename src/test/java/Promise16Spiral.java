/** Promise 16: spiral(). */
final class Promise16Spiral {
    private static final String WHAT = "0 for 100 plus the columns to the right, 1 for 100 plus the rows down";
    private static final String BITS = "2 for the bits of a whole code by this place (3, 5 or 7; 1 for the place 0)";

    private Promise16Spiral() {
    }

    static void tests() {
        Heading h = new Heading("Promise 16");
        h.test("- `place`: 0 to 24", "too small, the least, the greatest, too great", due -> {
            for (int what = 0; what < 3; what++) {
                int of = what;
                due.range("place", 0, 24, Due.UNKNOWN, place -> new Calls().spiral(place, of));
            }
        });
        h.test("- `what`: 0 for 100 plus the columns to the right", "too small, the least, the greatest, too great", due -> {
            due.range("what", 0, 2, Due.BAD_VALUE, what -> new Calls().spiral(0, what));
            due.range("what of the last place", 0, 2, Due.BAD_VALUE, what -> new Calls().spiral(24, what));
        });
        h.test(WHAT, "the least (98), 100, the greatest (102)", due -> {
            String right = "2332111234444321000001234";
            String down = "2233321111234444432100000";
            for (int place = 0; place < 25; place++) {
                due.is("columns of the place " + place, new Calls().spiral(place, 0), 98 + right.charAt(place) - '0');
                due.is("rows of the place " + place, new Calls().spiral(place, 1), 98 + down.charAt(place) - '0');
            }
        });
        h.test(BITS, "at every place", due -> {
            String bits = "1335555557777777777777777";
            for (int place = 0; place < 25; place++) {
                due.is("bits of the place " + place, new Calls().spiral(place, 2), bits.charAt(place) - '0');
            }
        });
        h.test("Returns the number", "the same behind any acts", due -> {
            Calls x = new Calls();
            Runs.rich(x);
            due.is("columns", x.spiral(9, 0), 102);
            due.is("rows", x.spiral(9, 1), 99);
            due.is("bits", x.spiral(9, 2), 7);
        });
        h.test("UNKNOWN", "no such place", due -> {
            due.is("25", new Calls().spiral(25, 0), Due.UNKNOWN);
            due.is("-1", new Calls().spiral(-1, 2), Due.UNKNOWN);
        });
        h.test("BAD_VALUE", "no such what", due -> {
            due.is("3", new Calls().spiral(24, 3), Due.BAD_VALUE);
            due.is("-1", new Calls().spiral(0, -1), Due.BAD_VALUE);
        });
    }
}
