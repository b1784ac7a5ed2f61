/** Promise 18: wouldSpend. */
public final class Promise18WouldSpend {
    public static void main(String[] args) {
        Due due = new Due();
        SpiralFrames x = new SpiralFrames();
        due.is("nothing to send", x.wouldSpend(0), 9);
        x.fill(0, 0, 12, 12, 15);
        due.is("all whole", x.wouldSpend(0), 594);
        due.is("all whole still", x.wouldSpend(239), 594);
        due.is("all skipped", x.wouldSpend(240), 9);
        x.fill(4, 4, 8, 8, 1);
        due.is("five whole, four skipped", x.wouldSpend(16), 5 * 66 + 4);
        due.is("all whole", x.wouldSpend(15), 594);
        x.setNumber(1, 240);
        due.is("the least tolerance does not matter", x.wouldSpend(0), 594);
        x.setNumber(2, 1);
        x.setNumber(1, 0);
        x.setNumber(0, 600);
        x.send(false);
        x.fill(0, 0, 4, 4, 3);
        x.send(true);
        due.is("the screen of the sender is compared, not that of the receiver", x.wouldSpend(0), 9);
        int[] told = Due.told(x);
        due.is("a frame that is to be keyed is told as one that is not", x.wouldSpend(0), 9);
        due.is("tolerance -1", x.wouldSpend(-1), Due.BAD_VALUE);
        due.is("tolerance 241", x.wouldSpend(241), Due.BAD_VALUE);
        due.is("extremes", x.wouldSpend(Integer.MIN_VALUE), Due.BAD_VALUE);
        due.are("nothing is changed", Due.told(x), told);
        due.end();
    }
}
