/** Promise 9: type. */
public final class Promise09Type {
    public static void main(String[] args) {
        Due due = new Due();
        SpiralFrames x = new SpiralFrames();
        x.set(0, 0, 1);
        int[] before = Due.state(x);
        for (int i = 1; i <= 60; i++) {
            due.is("character " + i, x.type(i % 5 == 0 ? ';' : "s0,0".charAt((i - 1) % 5)), i);
        }
        due.is("60 are all", x.type('s'), Due.FULL);
        due.is("and again", x.type((char) 0), Due.FULL);
        due.is("the length", x.count(12), 60);
        due.is("the text is as it was", x.paint(), -160);
        due.are("only the text is changed", Due.state(x), before);
        due.is("it is not an act", x.count(11), 1);
        x.clearText();
        due.is("any character", x.type((char) 65535), 1);
        due.is("any character", x.type((char) 0), 2);
        due.is("is not allowed at its place", x.paint(), -100);
        x.undo();
        due.is("undo leaves the text", x.count(12), 2);
        due.end();
    }
}
