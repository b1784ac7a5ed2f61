/** Runs and arithmetic that several tests need, worked out from the document alone. */
final class Runs {
    /** The 25 places, written out by hand from the walk that the document tells. */
    static final int[][] PLACES = {
        {0, 0}, {1, 0}, {1, 1}, {0, 1}, {-1, 1}, {-1, 0}, {-1, -1}, {0, -1}, {1, -1}, {2, -1}, {2, 0}, {2, 1}, {2, 2}, {1, 2}, {0, 2},
        {-1, 2}, {-2, 2}, {-2, 1}, {-2, 0}, {-2, -1}, {-2, -2}, {-1, -2}, {0, -2}, {1, -2}, {2, -2}};

    static final String TWELVE_ORDERS = "s0,0;s0,0;s0,0;s0,0;s0,0;s0,0;s0,0;s0,0;s0,0;s0,0;s0,0;s0,0";

    private Runs() {
    }

    static int bits(int place) {
        return place == 0 ? 1 : place <= 2 ? 3 : place <= 8 ? 5 : 7;
    }

    static int tileOf(int column, int row) {
        return column / 4 + row / 4 * 3;
    }

    static boolean isWithin(int tile, int place) {
        int left = tile % 3 * 4 + PLACES[place][0];
        int top = tile / 3 * 4 + PLACES[place][1];
        return left >= 0 && left <= 8 && top >= 0 && top <= 8;
    }

    /** A level from 1 to 15 for each point, so that no tile is found at a place where it was not. */
    static int level(int kind, int column, int row) {
        return 1 + (column * column * 3 + row * row * 5 + column * row * (7 + kind) + column * 2 + row + kind) % 15;
    }

    /** Takes 144 calls. */
    static void drawAll(Calls x, int kind) {
        for (int i = 0; i < 144; i++) {
            x.set(i % 12, i / 12, level(kind, i % 12, i / 12));
        }
    }

    /** Takes 16 calls. */
    static void drawMiddle(Calls x, int kind) {
        for (int i = 0; i < 16; i++) {
            x.set(4 + i % 4, 4 + i / 4, level(kind, i % 4, i / 4));
        }
    }

    /** A new object with so many bits saved (at most 600), and then this budget. */
    static Calls saved(int bits, int budget) {
        Calls x = new Calls();
        for (int left = bits; left > 0; left -= 591) {
            x.setNumber(0, Math.min(591, left) + 9);
            x.send(false);
        }
        x.setNumber(0, budget);
        return x;
    }

    /** An object that has some of all: its own settings, drifted screens, a full log and history, a snapshot and a text. */
    static void rich(Calls x) {
        x.setNumber(0, 150);
        x.setNumber(1, 3);
        x.setNumber(2, 40);
        x.fill(1, 1, 6, 5, 9);
        x.send(false);
        x.shift(1, 1);
        x.send(true);
        x.fill(5, 5, 4, 4, 12);
        x.send(false);
        x.keep();
        for (int i = 0; i < 7; i++) {
            x.set(i, 11 - i, 4 + i);
            x.send(i % 2 == 0);
        }
        x.text("b0,0,3,3=5;s1,-2");
        x.fill(8, 0, 3, 12, 2);
        x.shift(0, -1);
        x.set(0, 0, 15);
        x.send(true);
    }
}
