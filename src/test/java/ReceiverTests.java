/** THE RECEIVER. */
final class ReceiverTests {
    private static final String BECOMES = "The screen of the receiver becomes what the codes of each frame give with it";
    private static final String LOST = "unless the frame is lost. Then it stays as it is.";

    private ReceiverTests() {
    }

    static void tests() {
        Heading h = new Heading("THE RECEIVER");
        h.test(BECOMES, "skipped, moved and whole tiles", due -> {
            Calls x = new Calls();
            x.setNumber(0, 600);
            x.fill(4, 4, 4, 4, 5);
            due.is("whole", x.send(false), 74);
            due.is("it is drawn", x.difference(0, 2, -1), 0);
            x.shift(-1, 0);
            due.is("two are moved", x.send(false), 3 + 3 + 7);
            due.is("they are drawn", x.difference(0, 2, -1), 0);
            due.is("all are skipped", x.send(false), 9);
            due.is("it is as it was", x.difference(0, 2, -1), 0);
        });
        h.test(LOST, "a frame of each kind", due -> {
            Calls x = new Calls();
            x.setNumber(0, 600);
            x.fill(4, 4, 4, 4, 5);
            x.send(false);
            int[] points = Told.points(x, 2);
            x.fill(0, 0, 12, 12, 9);
            x.send(true);
            x.shift(3, 2);
            x.sendKeyed(true);
            x.setNumber(2, 1);
            x.send(true);
            due.is("the sender has it", x.difference(0, 1, -1), 0);
            due.are("the receiver", Told.points(x, 2), points);
            due.is("lost frames", x.count(6), 3);
        });
        h.test(LOST, "the first frame", due -> {
            Calls x = new Calls();
            x.set(0, 0, 7);
            x.send(true);
            due.is("the receiver is empty still", x.point(2, 0, 0), 0);
            x.send(false);
            due.is("and is not made up for by a tile that is skipped", x.point(2, 0, 0), 0);
        });
        h.test("(So later codes can give something else than at the sender.)", "a tile that is moved on both screens", due -> {
            Calls x = new Calls();
            x.setNumber(0, 600);
            x.fill(0, 0, 4, 4, 5);
            x.send(false);
            x.fill(0, 0, 4, 4, 7);
            x.send(true);
            x.shift(1, 0);
            due.is("one whole, one moved", x.send(false), 66 + 5 + 7);
            due.is("the sender takes a column of 7", x.point(1, 4, 0), 7);
            due.is("the receiver takes one of 5", x.point(2, 4, 0), 5);
            due.is("points that differ", x.count(9), 4);
            due.is("tiles that differ", x.count(10), 1);
        });
        h.test(BECOMES, "a keyed frame brings both screens together again", due -> {
            Calls x = new Calls();
            x.setNumber(0, 600);
            x.fill(1, 1, 9, 9, 3);
            x.send(true);
            x.shift(1, 1);
            x.send(false);
            due.holds("they have drifted apart", x.count(9) > 0);
            x.sendKeyed(false);
            due.is("points that differ", x.count(9), 0);
            due.is("the receiver has the drawing", x.difference(0, 2, -1), 0);
        });
    }
}
