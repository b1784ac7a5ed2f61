/** Promise 19: wouldNeed. */
public final class Promise19WouldNeed {
    public static void main(String[] args) {
        Due due = new Due();
        SpiralFrames x = new SpiralFrames();
        due.is("nothing to send", x.wouldNeed(), 0);
        x.setNumber(1, 33);
        due.is("the least one", x.wouldNeed(), 33);
        x.setNumber(1, 0);
        x.fill(0, 0, 4, 4, 2);
        x.fill(4, 0, 4, 4, 6);
        x.setNumber(0, 138);
        due.is("138 bits are one too few", x.wouldNeed(), 32);
        x.setNumber(0, 139);
        due.is("139 are enough", x.wouldNeed(), 0);
        x.setNumber(0, 73);
        due.is("73 bits are too few for one", x.wouldNeed(), 96);
        x.setNumber(1, 96);
        due.is("from the least one on", x.wouldNeed(), 96);
        x.setNumber(1, 97);
        due.is("from the least one on", x.wouldNeed(), 97);
        x.setNumber(1, 240);
        due.is("240", x.wouldNeed(), 240);
        x.send(false);
        x.setNumber(1, 0);
        due.is("what is saved can be spent", x.count(3), 64);
        x.setNumber(0, 74);
        due.is("138 bits are one too few", x.wouldNeed(), 32);
        x.setNumber(0, 75);
        due.is("139 are enough", x.wouldNeed(), 0);
        x.fill(0, 0, 12, 12, 15);
        x.setNumber(2, 1);
        int[] told = Due.told(x);
        due.is("the most", x.wouldNeed(), 240);
        due.are("nothing is changed", Due.told(x), told);
        x.setNumber(0, 600);
        due.is("the next one is keyed, and this one told as if not", x.wouldNeed(), 0);
        SpiralFrames y = new SpiralFrames();
        y.fill(0, 0, 4, 4, 2);
        y.setNumber(0, 74);
        y.send(true);
        y.setNumber(0, 73);
        due.is("the screen of the sender is compared, not that of the receiver", y.wouldNeed(), 0);
        due.end();
    }
}
