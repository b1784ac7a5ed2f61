/** Counts the answers that are not as due; a test ends with exit code 1 if there was one. */
final class Due {
    static final int UNKNOWN = -1;
    static final int BAD_VALUE = -2;
    static final int FULL = -3;
    static final int NOT_POSSIBLE = -4;
    static final int NONE = -5;

    private int wrong = 0;
    private int asked = 0;

    void is(String call, int got, int want) {
        asked++;
        if (got != want) {
            wrong++;
            System.out.println(call + " answered " + got + ", due is " + want);
        }
    }

    /** The calls of a row are due to answer the numbers of a row. */
    void are(String calls, int[] got, int... want) {
        is(calls + " (how many)", got.length, want.length);
        for (int i = 0; i < Math.min(got.length, want.length); i++) {
            is(calls + " (answer " + i + ")", got[i], want[i]);
        }
    }

    void end() {
        System.out.println(asked + " answers, " + wrong + " not as due");
        if (wrong != 0 || asked == 0) {
            System.exit(1);
        }
    }

    static void type(SpiralFrames x, String text) {
        x.clearText();
        for (int i = 0; i < text.length(); i++) {
            x.type(text.charAt(i));
        }
    }

    /** What paint() answers to a text on a new object. */
    static int painted(String text) {
        SpiralFrames x = new SpiralFrames();
        type(x, text);
        return x.paint();
    }

    /** All that an object tells of itself, to see that a call changed nothing. */
    static int[] told(SpiralFrames x) {
        int[] told = new int[3 * 144 + 13 + 10 * 17];
        int at = 0;
        for (int picture = 0; picture < 3; picture++) {
            for (int point = 0; point < 144; point++) {
                told[at++] = x.point(picture, point % 12, point / 12);
            }
        }
        for (int what = 0; what < 13; what++) {
            told[at++] = x.count(what);
        }
        for (int back = 0; back < 10; back++) {
            for (int what = 0; what < 8; what++) {
                told[at++] = x.frame(back, what);
            }
            for (int tile = 0; tile < 9; tile++) {
                told[at++] = x.sent(back, tile);
            }
        }
        return told;
    }

    /** All but the text, the history and the snapshot. */
    static int[] state(SpiralFrames x) {
        int[] told = told(x);
        told[3 * 144 + 11] = 0;
        told[3 * 144 + 12] = 0;
        return told;
    }
}
