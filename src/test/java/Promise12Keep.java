/** Promise 12: keep. */
public final class Promise12Keep {
    public static void main(String[] args) {
        Due due = new Due();
        SpiralFrames x = new SpiralFrames();
        int[] told = Due.told(x);
        due.is("no frames", x.keep(), 0);
        due.are("nothing is changed, nothing recorded", Due.told(x), told);
        for (int i = 0; i < 9; i++) {
            x.send(i == 3);
        }
        due.is("frames so far, beyond the log", x.keep(), 9);
        x.set(4, 4, 4);
        due.is("in place of the one that was", x.keep(), 9);
        x.set(4, 4, 5);
        due.is("restore()", x.restore(), 9);
        due.is("the later one", x.point(0, 4, 4), 4);
        x.undo();
        due.is("keep is not undone", x.restore(), 9);
        due.is("it is still the later one", x.point(0, 4, 4), 4);
        due.end();
    }
}
