/** Promise 10: clearText. */
public final class Promise10ClearText {
    public static void main(String[] args) {
        Due due = new Due();
        SpiralFrames x = new SpiralFrames();
        due.is("an empty one", x.clearText(), 0);
        Due.type(x, "b0,0,1,1=1");
        due.is("the length that it had", x.clearText(), 10);
        due.is("it is empty", x.count(12), 0);
        due.is("its fault", x.paint(), -100);
        due.is("it is typed anew", x.type('s'), 1);
        due.is("nothing is left behind it", x.paint(), -101);
        due.is("it is not an act", x.count(11), 0);
        Due.type(x, "s0,0;s0,0;s0,0;s0,0;s0,0;s0,0;s0,0;s0,0;s0,0;s0,0;s0,0;s0,0;");
        due.is("60", x.clearText(), 60);
        due.is("there is room again", x.type('x'), 1);
        due.end();
    }
}
