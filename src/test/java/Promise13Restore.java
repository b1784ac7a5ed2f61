/** Promise 13: restore. */
public final class Promise13Restore {
    public static void main(String[] args) {
        Due due = new Due();
        SpiralFrames x = new SpiralFrames();
        x.set(0, 0, 3);
        int[] told = Due.told(x);
        due.is("no snapshot", x.restore(), Due.NONE);
        due.are("nothing is changed", Due.told(x), told);
        x.setNumber(0, 300);
        x.setNumber(2, 7);
        x.send(true);
        int[] kept = Due.state(x);
        due.is("keep()", x.keep(), 1);
        due.are("everything is kept", Due.state(x), kept);
        Due.type(x, "b0,0,4,4=7");
        x.paint();
        x.setNumber(1, 5);
        for (int i = 0; i < 9; i++) {
            x.send(false);
        }
        int[] later = Due.state(x);
        due.is("restore()", x.restore(), 1);
        due.are("as it was kept", Due.state(x), kept);
        due.is("the text is not", x.count(12), 10);
        due.is("it is an act", x.count(11), 4);
        x.set(9, 9, 9);
        due.is("the snapshot stays", x.restore(), 1);
        due.are("as it was kept", Due.state(x), kept);
        due.is("undo()", x.undo(), 3);
        due.is("undo()", x.undo(), 2);
        due.is("undo()", x.undo(), 1);
        due.are("ahead of the first restore", Due.state(x), later);
        due.is("restore is an act of its own though nothing differs", x.restore() + x.restore() + x.count(11), 5);
        due.end();
    }
}
