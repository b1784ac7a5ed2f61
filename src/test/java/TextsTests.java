import java.util.regex.Matcher;
import java.util.regex.Pattern;

/** TEXTS. */
final class TextsTests {
    private static final String ROOM = "There is a text of at most 60 characters, empty at first.";
    private static final String ROW = "A row of orders for the drawing is one or more orders with \";\" between two.";
    private static final String BOX = "An order is \"b\", a column, \",\", a row, \",\", columns, \",\", rows, \"=\", and a level: the box is "
        + "filled with the level";
    private static final String STEP = "or \"s\", a column, \",\", a row: the whole drawing is moved by so many columns to the right and "
        + "so many rows down";
    private static final String MINUS = "(a \"-\" ahead of a number means to the left or up, but not of 0)";
    private static final String COME_IN = "and points that come in are 0";
    private static final String NUMBER = "A number has one or two digits";
    private static final String ZERO = "without a zero in front unless it is the single digit 0";
    private static final String FAULT =
        "The fault of the text is the index, from 0, of the first character that is not allowed at its place";
    private static final String EARLY = "or the length of the text if it ends too early (the empty text does)";

    private static final String NUMBER_WRITTEN = "(0|[1-9][0-9]?)";
    private static final String STEP_WRITTEN = "(0|-?[1-9][0-9]?)";
    private static final String ORDER_WRITTEN = "(b" + NUMBER_WRITTEN + "," + NUMBER_WRITTEN + "," + NUMBER_WRITTEN + "," + NUMBER_WRITTEN
        + "=" + NUMBER_WRITTEN + "|s" + STEP_WRITTEN + "," + STEP_WRITTEN + ")";
    private static final Pattern ROW_WRITTEN = Pattern.compile(ORDER_WRITTEN + "(;" + ORDER_WRITTEN + ")*");

    private TextsTests() {
    }

    static void tests() {
        Heading h = new Heading("TEXTS");
        room(h);
        rows(h);
        orders(h);
        numbers(h);
        faults(h);
        early(h);
        everyCharacter(h);
    }

    static void painted(Due due, String text, int want) {
        due.is("paint() of " + text, new Calls().text(text).paint(), want);
    }

    private static void fault(Due due, String text, int index) {
        painted(due, text, -100 - index);
    }

    private static void room(Heading h) {
        h.test(ROOM, "59, 60 and 61 characters", due -> {
            Calls x = new Calls();
            for (int length = 1; length <= 60; length++) {
                due.is("character " + length, x.type('s'), length);
            }
            due.is("the 61st", x.type('s'), Due.FULL);
            due.is("the length", x.count(12), 60);
        });
        h.test("empty at first", "its length, its fault, and what is emptied", due -> {
            due.is("its length", new Calls().count(12), 0);
            due.is("its fault", new Calls().paint(), -100);
            due.is("clearText()", new Calls().clearText(), 0);
        });
        h.test(ROOM, "a row of orders may have all 60", due -> {
            painted(due, Runs.TWELVE_ORDERS.replaceFirst("s0,0$", "s10,0"), 12);
            painted(due, "b10,10,10,10=10;b10,10,10,10=10;b10,10,10,10=10;b0,0,10,10=9", 4);
        });
    }

    private static void rows(Heading h) {
        h.test(ROW, "one order", due -> {
            painted(due, "s0,0", 1);
            painted(due, "b0,0,1,1=0", 1);
        });
        h.test(ROW, "from one to twelve orders", due -> {
            for (int orders = 1; orders <= 12; orders++) {
                painted(due, Runs.TWELVE_ORDERS.substring(0, orders * 5 - 1), orders);
            }
        });
        h.test(ROW, "no order is no row", due -> fault(due, "", 0));
        h.test(ROW, "a \";\" ahead of the first, behind the last, twice, or none between two", due -> {
            fault(due, ";s0,0", 0);
            fault(due, "s0,0;", 5);
            fault(due, "s0,0;;s0,0", 5);
            fault(due, "s0,0s0,0", 4);
            fault(due, "s0,0,s0,0", 4);
            fault(due, "b0,0,1,1=1b0,0,1,1=1", 10);
            fault(due, "s0,0 ;s0,0", 4);
        });
    }

    private static void orders(Heading h) {
        h.test(BOX, "which number is which", due -> {
            Calls x = new Calls().text("b2,7,3,4=11");
            due.is("paint()", x.paint(), 1);
            int[] points = Told.points(x, 0);
            for (int i = 0; i < 144; i++) {
                boolean isInside = i % 12 >= 2 && i % 12 <= 4 && i / 12 >= 7 && i / 12 <= 10;
                due.is("column " + i % 12 + ", row " + i / 12, points[i], isInside ? 11 : 0);
            }
        });
        h.test(BOX, "columns and rows beyond the drawing are left out as by fill()", due -> {
            Calls x = new Calls().text("b11,10,12,12=9");
            x.paint();
            due.is("two points", x.difference(0, 1, -1), 18);
        });
        h.test(STEP, "to the right and down", due -> {
            Calls x = new Calls();
            x.set(2, 3, 7);
            x.text("s4,1").paint();
            due.is("4 to the right, 1 down", x.point(0, 6, 4), 7);
            due.is("no more where it was", x.point(0, 2, 3), 0);
        });
        h.test(MINUS, "to the left, up, and both", due -> {
            Calls x = new Calls();
            x.set(6, 6, 7);
            x.text("s-4,1").paint();
            due.is("4 to the left, 1 down", x.point(0, 2, 7), 7);
            x.text("s1,-5").paint();
            due.is("1 to the right, 5 up", x.point(0, 3, 2), 7);
            x.text("s-3,-2").paint();
            due.is("3 to the left, 2 up", x.point(0, 0, 0), 7);
        });
        h.test(MINUS, "-1 and -11, but not -0", due -> {
            painted(due, "s-1,0", 1);
            painted(due, "s0,-1", 1);
            painted(due, "s-11,-11", 1);
            fault(due, "s-0,0", 2);
            fault(due, "s0,-0", 4);
            fault(due, "s-0", 2);
            fault(due, "s-00,1", 2);
            fault(due, "s-01,1", 2);
        });
        h.test(MINUS, "one \"-\" at most, and no \"+\"", due -> {
            fault(due, "s--1,0", 2);
            fault(due, "s1-,0", 2);
            fault(due, "s1,--1", 4);
            fault(due, "s+1,0", 1);
            fault(due, "s1,+1", 3);
        });
        h.test(MINUS, "ahead of no number of a box", due -> {
            fault(due, "b-1,0,1,1=1", 1);
            fault(due, "b0,-1,1,1=1", 3);
            fault(due, "b0,0,-1,1=1", 5);
            fault(due, "b0,0,1,-1=1", 7);
            fault(due, "b0,0,1,1=-1", 9);
        });
        h.test(COME_IN, "at all four sides", due -> {
            String[] texts = {"s1,0", "s-1,0", "s0,1", "s0,-1"};
            int[][] comeIn = {{0, 6}, {11, 6}, {6, 0}, {6, 11}};
            for (int i = 0; i < 4; i++) {
                Calls x = new Calls();
                x.fill(0, 0, 12, 12, 8);
                x.text(texts[i]).paint();
                due.is("a point that comes in by " + texts[i], x.point(0, comeIn[i][0], comeIn[i][1]), 0);
                due.is("all others stay", x.difference(0, 1, -1), 132 * 8);
            }
        });
        h.test("An order is \"b\"", "no other letter begins one", due -> {
            for (char letter = 0; letter < 400; letter++) {
                if (letter != 'b' && letter != 's') {
                    fault(due, letter + "0,0,1,1=1", 0);
                    fault(due, "s0,0;" + letter + "0,0", 5);
                }
            }
            fault(due, "B0,0,1,1=1", 0);
            fault(due, "S0,0", 0);
        });
    }

    private static void numbers(Heading h) {
        h.test(NUMBER, "one, two, none and three, at every place of a number", due -> {
            String[] ahead = {"b", "b1,", "b1,1,", "b1,1,1,", "b1,1,1,1=", "s", "s-", "s1,", "s1,-"};
            String[] behind = {",1,1,1=1", ",1,1=1", ",1=1", "=1", "", ",1", ",1", "", ""};
            for (int i = 0; i < ahead.length; i++) {
                painted(due, ahead[i] + "1" + behind[i], 1);
                painted(due, ahead[i] + "11" + behind[i], 1);
                fault(due, ahead[i] + behind[i], ahead[i].length());
                fault(due, ahead[i] + "111" + behind[i], ahead[i].length() + 2);
            }
        });
        h.test(ZERO, "0 is one, and 00, 01 and 09 are none, at every place of a number", due -> {
            String[] ahead = {"b", "b1,", "b1,1,", "b1,1,1,", "b1,1,1,1=", "s", "s1,"};
            String[] behind = {",1,1,1=1", ",1,1=1", ",1=1", "=1", "", ",1", ""};
            for (int i = 0; i < ahead.length; i++) {
                boolean isSize = i == 2 || i == 3;
                painted(due, ahead[i] + "0" + behind[i], isSize ? Due.BAD_VALUE : 1);
                for (String number : new String[] {"00", "01", "09"}) {
                    fault(due, ahead[i] + number + behind[i], ahead[i].length() + 1);
                }
            }
        });
        h.test(ZERO, "10 has its zero behind", due -> {
            painted(due, "b10,10,10,10=10", 1);
            painted(due, "s10,-10", 1);
        });
        h.test(NUMBER, "no other signs than 0 to 9 are digits", due -> {
            fault(due, "s/,0", 1);
            fault(due, "s:,0", 1);
            fault(due, "s1/,0", 2);
            fault(due, "s1:,0", 2);
            fault(due, "s" + (char) 0x0661 + ",0", 1);
            fault(due, "s" + (char) ('1' + 256) + ",0", 1);
            fault(due, "s" + (char) ('1' + 128) + ",0", 1);
            fault(due, "s a,0", 1);
        });
    }

    private static void faults(Heading h) {
        h.test(FAULT, "at the first character, within, and at the last one", due -> {
            fault(due, "x0,0", 0);
            fault(due, "s;,0", 1);
            fault(due, "s0;0", 2);
            fault(due, "s0,;", 3);
            fault(due, "s0,0x", 4);
            fault(due, "b0,0,1,1,1", 8);
            fault(due, "b0,0,1=1=1", 6);
            fault(due, "b0=0,1,1=1", 2);
            fault(due, "s1,0=1", 4);
            fault(due, "s1,0,1,1=1", 4);
            fault(due, Runs.TWELVE_ORDERS.replaceFirst("0$", "x"), 58);
            fault(due, Runs.TWELVE_ORDERS + "x", 59);
        });
        h.test(FAULT, "the first of several, ahead of any error of an order", due -> {
            fault(due, "s12,0;b99,0,0,0=99;x;y", 19);
            fault(due, "b12,0,0,0=16x", 12);
        });
        h.test(FAULT, "any character, from 0 to 65535", due -> {
            for (int character : new int[] {0, 1, 31, 32, 127, 128, 255, 256, 's' + 256, 32767, 32768, 65535}) {
                fault(due, (char) character + "", 0);
                fault(due, "s0,0" + (char) character, 4);
            }
        });
    }

    private static void early(Heading h) {
        h.test(EARLY, "the empty text", due -> fault(due, "", 0));
        h.test(EARLY, "each beginning of an order that is none yet", due -> {
            String box = "b12,3,10,4=15";
            for (int length = 1; length < box.length() - 1; length++) {
                fault(due, box.substring(0, length), length);
            }
            String step = "s-1,-2";
            for (int length = 1; length < step.length(); length++) {
                fault(due, step.substring(0, length), length);
            }
        });
        h.test(EARLY, "behind a \";\", also if that is the 60th character", due -> {
            fault(due, "s0,0;", 5);
            fault(due, "s0,0;s", 6);
            fault(due, Runs.TWELVE_ORDERS + ";", 60);
            fault(due, "b10,10,10,10=10;b10,10,10,10=10;b10,10,10,10=10;b10,1,1,10=", 59);
            fault(due, "b10,10,10,10=10;b10,10,10,10=10;b10,10,10,10=10;b10,10,1,10=", 60);
        });
        h.test(EARLY, "what was behind a longer text that was emptied is no part of it", due -> {
            Calls x = new Calls().text("s0,0;s0,0");
            x.text("s0,");
            due.is("paint()", x.paint(), -103);
            x.type('0');
            due.is("paint()", x.paint(), 1);
        });
    }

    private static void everyCharacter(Heading h) {
        h.test(FAULT, "every character of a text changed into every other", due -> {
            for (String text : new String[] {"b12,0,10,4=15;s-11,10", "s0,-3;b0,10,1,12=0;s1,0"}) {
                for (int i = 0; i < text.length(); i++) {
                    for (char sign : "bs0123456789,;=-+ xB".toCharArray()) {
                        asWritten(due, text.substring(0, i) + sign + text.substring(i + 1));
                        asWritten(due, text.substring(0, i) + sign + text.substring(i));
                    }
                    asWritten(due, text.substring(0, i) + text.substring(i + 1));
                    asWritten(due, text.substring(0, i));
                }
            }
        });
    }

    /** The fault as a pattern finds it; a row of orders without a fault answers how many there are, or an error of one. */
    private static void asWritten(Due due, String text) {
        int got = new Calls().text(text).paint();
        int fault = -1;
        for (int i = 0; i < text.length() && fault < 0; i++) {
            Matcher start = ROW_WRITTEN.matcher(text.substring(0, i + 1));
            fault = start.matches() || start.hitEnd() ? -1 : i;
        }
        if (fault < 0 && !ROW_WRITTEN.matcher(text).matches()) {
            fault = text.length();
        }
        if (fault >= 0) {
            due.is("paint() of " + text, got, -100 - fault);
        } else {
            due.holds("paint() of " + text + " finds no fault, but answers " + got,
                got == text.split(";").length || got == Due.UNKNOWN || got == Due.BAD_VALUE);
        }
    }
}
