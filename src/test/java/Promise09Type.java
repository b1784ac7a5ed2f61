/** Promise 9: type(). */
final class Promise09Type {
    private Promise09Type() {
    }

    static void tests() {
        Heading h = new Heading("Promise 9");
        h.test("Types a character behind the text.", "the order of the characters, and each of them", due -> {
            Calls x = new Calls();
            x.set(0, 0, 9);
            for (char character : "s10,2".toCharArray()) {
                x.type(character);
            }
            due.is("paint()", x.paint(), 1);
            due.is("10 to the right, 2 down", x.point(0, 10, 2), 9);
        });
        h.test("Types a character behind the text.", "it changes nothing but the text, and is no act", due -> {
            Run run = x -> {
                x.set(0, 0, 1);
                x.send(true);
            };
            due.are("the state", Told.state(run.then(x -> x.text(Runs.TWELVE_ORDERS))), Told.state(run));
            due.is("states", run.then(x -> x.type('s')).made().count(11), 2);
        });
        h.test("- `character`: any character", "from 0 to 65535", due -> {
            for (int character : new int[] {0, 1, 10, 31, 32, 126, 127, 128, 255, 256, 32767, 32768, 55296, 65535}) {
                Calls x = new Calls();
                due.is("character " + character, x.type((char) character), 1);
                due.is("it is not one of an order", x.paint(), -100);
                due.is("the next one", x.type('s'), 2);
            }
        });
        h.test("Returns the length of the text then", "from 1 to 60", due -> {
            Calls x = new Calls();
            for (int length = 1; length <= 60; length++) {
                due.is("character " + length, x.type(';'), length);
                due.is("the length", x.count(12), length);
            }
        });
        h.test("FULL if it has 60 characters", "the 60th, the 61st, and one more", due -> {
            Calls x = new Calls().text(Runs.TWELVE_ORDERS);
            due.is("the 60th", x.type(';'), 60);
            due.is("the 61st", x.type('s'), Due.FULL);
            due.is("one more", x.type('s'), Due.FULL);
            due.is("the length", x.count(12), 60);
            due.is("the text is as it was", x.paint(), -160);
        });
        h.test("FULL if it has 60 characters", "there is room again behind clearText()", due -> {
            Calls x = new Calls().text(Runs.TWELVE_ORDERS + ";");
            x.clearText();
            for (int length = 1; length <= 60; length++) {
                due.is("character " + length, x.type('b'), length);
            }
            due.is("the 61st", x.type('b'), Due.FULL);
        });
    }
}
