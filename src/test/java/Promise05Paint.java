/** Promise 5: paint, and the faults of texts. */
public final class Promise05Paint {
    private static final Due DUE = new Due();

    public static void main(String[] args) {
        orders();
        faults();
        errors();
        oneAct();
        DUE.end();
    }

    private static void painted(String text, int want) {
        DUE.is("paint of " + text, Due.painted(text), want);
    }

    private static void orders() {
        painted("b0,0,4,4=7", 1);
        painted("s0,0", 1);
        painted("s-11,-11", 1);
        painted("s11,10;s-1,0;b11,11,12,12=15", 3);
        painted("s0,0;s0,0;s0,0;s0,0;s0,0;s0,0;s0,0;s0,0;s0,0;s0,0;s0,0;s0,0", 12);
        SpiralFrames x = new SpiralFrames();
        Due.type(x, "b1,2,3,4=5;s-1,2;b0,4,1,1=6");
        DUE.is("three orders", x.paint(), 3);
        DUE.is("filled behind the move", x.point(0, 0, 4), 6);
        DUE.is("moved left and down", x.point(0, 2, 7), 5);
        DUE.is("moved away", x.point(0, 3, 4), 0);
        DUE.is("one row further down", x.point(0, 0, 8), 0);
        DUE.is("the text stays", x.count(12), 27);
        DUE.is("and is done again", x.paint(), 3);
        DUE.is("onto what was", x.point(0, 1, 9), 5);
        Due.type(x, "s0,0;s3,0;b5,5,1,1=9");
        x.paint();
        x.set(5, 5, 2);
        Due.type(x, "s0,0");
        DUE.is("one order", x.paint(), 1);
        DUE.is("none of the text that was", x.point(0, 5, 5), 2);
    }

    private static void faults() {
        painted("", -100);
        painted("x", -100);
        painted("B0,0,1,1=1", -100);
        painted(";", -100);
        painted("b", -101);
        painted("b,", -101);
        painted("b-1,0,1,1=1", -101);
        painted("b 1", -101);
        painted("b00,0,1,1=1", -102);
        painted("b0;0", -102);
        painted("b100,0,1,1=1", -103);
        painted("b0,", -103);
        painted("b0,-1,1,1=1", -103);
        painted("b0,0=1", -104);
        painted("b0,0,-1,1=1", -105);
        painted("b0,0,1,-1=1", -107);
        painted("b0,0,1,1,1", -108);
        painted("b0,0,1,1=", -109);
        painted("b0,0,1,1=-1", -109);
        painted("b0,0,1,1=05", -110);
        painted("b0,0,1,1=123", -111);
        painted("b0,0,1,1=1 ", -110);
        painted("b0,0,1,1=1;", -111);
        painted("b0,0,1,1=1;;", -111);
        painted("s", -101);
        painted("s-", -102);
        painted("s-0,0", -102);
        painted("s--1,0", -102);
        painted("s01,0", -102);
        painted("s+1,0", -101);
        painted("s1", -102);
        painted("s-1", -103);
        painted("s-12", -104);
        painted("s-123,0", -104);
        painted("s1,", -103);
        painted("s1,-", -104);
        painted("s1,-00", -104);
        painted("s1,0,", -104);
        painted("s1,0=1", -104);
        painted("s1,00", -104);
        painted("s1,0;", -105);
        painted("s1,0;x", -105);
        painted("s" + (char) 0x0661 + ",0", -101);
        painted((char) ('s' + 256) + "0,0", -100);
        painted("s0,0;s0,0;s0,0;s0,0;s0,0;s0,0;s0,0;s0,0;s0,0;s0,0;s0,0;s0,0;", -160);
        painted("s0,0;s0,0;s0,0;s0,0;s0,0;s0,0;s0,0;s0,0;s0,0;s0,0;s0,0;s0,0x", -159);
        painted("s12,0;b99,0,0,0=99;x", -119);
    }

    private static void errors() {
        painted("b12,0,1,1=1", Due.UNKNOWN);
        painted("b0,99,0,0=99", Due.UNKNOWN);
        painted("b0,0,0,1=1", Due.BAD_VALUE);
        painted("b0,0,13,1=1", Due.BAD_VALUE);
        painted("b0,0,1,0=1", Due.BAD_VALUE);
        painted("b0,0,1,13=1", Due.BAD_VALUE);
        painted("b0,0,1,1=16", Due.BAD_VALUE);
        painted("s12,0", Due.BAD_VALUE);
        painted("s0,-12", Due.BAD_VALUE);
        painted("s0,0;s12,0;b12,0,1,1=1", Due.BAD_VALUE);
        painted("s0,0;b12,0,1,1=1;s12,0", Due.UNKNOWN);
        SpiralFrames x = new SpiralFrames();
        x.set(1, 1, 1);
        for (String text : new String[] {"b0,0,4,4=7;b12,0,1,1=1", "b0,0,4,4=7;s1,1;s12,0", "b0,0,4,4=7;"}) {
            Due.type(x, text);
            int[] before = Due.told(x);
            x.paint();
            DUE.are("nothing is changed by " + text, Due.told(x), before);
        }
    }

    private static void oneAct() {
        SpiralFrames x = new SpiralFrames();
        x.set(0, 0, 1);
        int[] before = Due.state(x);
        Due.type(x, "b0,0,4,4=7;s1,1;b3,3,9,9=2");
        DUE.is("paint()", x.paint(), 3);
        DUE.is("one act", x.count(11), 2);
        DUE.is("undo()", x.undo(), 1);
        DUE.are("as it was", Due.state(x), before);
        DUE.is("undo does not take the text", x.count(12), 26);
        Due.type(x, "s0,0");
        DUE.is("orders that do nothing", x.paint(), 1);
        DUE.is("are an act too", x.count(11), 2);
    }
}
