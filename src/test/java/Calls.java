/** A new object and the calls to it: no test makes more of them than the document tells of. */
final class Calls {
    static final int MOST = 512;

    private final SpiralFrames frames = new SpiralFrames();
    private int made = 0;

    int made() {
        return made;
    }

    private SpiralFrames next() {
        made++;
        if (made > MOST) {
            throw new IllegalStateException("this test asks for more than the document tells: call " + made);
        }
        return frames;
    }

    /** Types a text in place of the one that was. */
    Calls text(String text) {
        clearText();
        for (int i = 0; i < text.length(); i++) {
            type(text.charAt(i));
        }
        return this;
    }

    int set(int column, int row, int level) {
        return next().set(column, row, level);
    }

    int fill(int column, int row, int columns, int rows, int level) {
        return next().fill(column, row, columns, rows, level);
    }

    int shift(int columns, int rows) {
        return next().shift(columns, rows);
    }

    int paint() {
        return next().paint();
    }

    int setNumber(int what, int value) {
        return next().setNumber(what, value);
    }

    int send(boolean isLost) {
        return next().send(isLost);
    }

    int sendKeyed(boolean isLost) {
        return next().sendKeyed(isLost);
    }

    int type(char character) {
        return next().type(character);
    }

    int clearText() {
        return next().clearText();
    }

    int undo() {
        return next().undo();
    }

    int keep() {
        return next().keep();
    }

    int restore() {
        return next().restore();
    }

    int point(int picture, int column, int row) {
        return next().point(picture, column, row);
    }

    int difference(int picture, int other, int tile) {
        return next().difference(picture, other, tile);
    }

    int spiral(int place, int what) {
        return next().spiral(place, what);
    }

    int wouldCode(int tile, int tolerance, int what) {
        return next().wouldCode(tile, tolerance, what);
    }

    int wouldSpend(int tolerance) {
        return next().wouldSpend(tolerance);
    }

    int wouldNeed() {
        return next().wouldNeed();
    }

    int best(int tile, int what) {
        return next().best(tile, what);
    }

    int frame(int back, int what) {
        return next().frame(back, what);
    }

    int sent(int back, int tile) {
        return next().sent(back, tile);
    }

    int count(int what) {
        return next().count(what);
    }
}
