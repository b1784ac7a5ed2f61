import java.util.ArrayDeque;
import java.util.ArrayList;
import java.util.Arrays;
import java.util.Deque;
import java.util.List;
import java.util.regex.Matcher;
import java.util.regex.Pattern;

/** A second answer to the document, written the slow way, for RandomRuns to compare with. */
final class Model {
    static final int UNKNOWN = -1;
    static final int BAD_VALUE = -2;
    static final int FULL = -3;
    static final int NOT_POSSIBLE = -4;
    static final int NONE = -5;

    private static final String PLAIN = "(0|[1-9][0-9]?)";
    private static final String SIGNED = "(0|-?[1-9][0-9]?)";
    private static final String ORDER = "(b" + PLAIN + "," + PLAIN + "," + PLAIN + "," + PLAIN + "=" + PLAIN
        + "|s" + SIGNED + "," + SIGNED + ")";
    private static final Pattern ROW = Pattern.compile(ORDER + "(;" + ORDER + ")*");

    private record Frame(int bits, int tolerance, boolean keyed, boolean lost, int[] codes, int left) { }

    private static final class State {
        int[][][] pictures = new int[3][12][12];
        int[] settings = {200, 0, 0};
        int saved = 0;
        List<Frame> frames = new ArrayList<>();

        State copy() {
            State copy = new State();
            for (int p = 0; p < 3; p++) {
                for (int r = 0; r < 12; r++) {
                    copy.pictures[p][r] = pictures[p][r].clone();
                }
            }
            copy.settings = settings.clone();
            copy.saved = saved;
            copy.frames = new ArrayList<>(frames);
            return copy;
        }
    }

    private State state = new State();
    private final Deque<State> history = new ArrayDeque<>();
    private State snapshot = null;
    private String text = "";
    private final int[][] spiral = walk();

    private static int[][] walk() {
        int[][] places = new int[25][2];
        int[][] legs = {{1, 0, 1}, {0, 1, 1}, {-1, 0, 2}, {0, -1, 2}, {1, 0, 3}, {0, 1, 3}, {-1, 0, 4}, {0, -1, 4}, {1, 0, 4}};
        int at = 0;
        for (int[] leg : legs) {
            for (int i = 0; i < leg[2]; i++) {
                places[at + 1][0] = places[at][0] + leg[0];
                places[at + 1][1] = places[at][1] + leg[1];
                at++;
            }
        }
        return places;
    }

    private static boolean in(int n, int low, int high) {
        return low <= n && n <= high;
    }

    private void record() {
        history.addLast(state.copy());
        if (history.size() > 4) {
            history.removeFirst();
        }
    }

    int set(int column, int row, int level) {
        if (!in(column, 0, 11) || !in(row, 0, 11)) {
            return UNKNOWN;
        }
        if (!in(level, 0, 15)) {
            return BAD_VALUE;
        }
        int old = state.pictures[0][row][column];
        if (old == level) {
            return NONE;
        }
        record();
        state.pictures[0][row][column] = level;
        return old;
    }

    private static int fillError(int[] a) {
        if (!in(a[0], 0, 11) || !in(a[1], 0, 11)) {
            return UNKNOWN;
        }
        return in(a[2], 1, 12) && in(a[3], 1, 12) && in(a[4], 0, 15) ? 0 : BAD_VALUE;
    }

    private static int shiftError(int[] a) {
        return in(a[0], -11, 11) && in(a[1], -11, 11) ? 0 : BAD_VALUE;
    }

    private int change(int[][] next) {
        int unlike = 0;
        for (int r = 0; r < 12; r++) {
            for (int c = 0; c < 12; c++) {
                unlike += next[r][c] != state.pictures[0][r][c] ? 1 : 0;
            }
        }
        state.pictures[0] = next;
        return unlike;
    }

    private int doFill(int[] a) {
        int[][] next = new int[12][12];
        for (int r = 0; r < 12; r++) {
            for (int c = 0; c < 12; c++) {
                boolean inside = c >= a[0] && c < a[0] + a[2] && r >= a[1] && r < a[1] + a[3];
                next[r][c] = inside ? a[4] : state.pictures[0][r][c];
            }
        }
        return change(next);
    }

    private int doShift(int[] a) {
        int[][] next = new int[12][12];
        for (int r = 0; r < 12; r++) {
            for (int c = 0; c < 12; c++) {
                if (in(c + a[0], 0, 11) && in(r + a[1], 0, 11)) {
                    next[r + a[1]][c + a[0]] = state.pictures[0][r][c];
                }
            }
        }
        return change(next);
    }

    int fill(int column, int row, int columns, int rows, int level) {
        int[] a = {column, row, columns, rows, level};
        if (fillError(a) != 0) {
            return fillError(a);
        }
        record();
        return doFill(a);
    }

    int shift(int columns, int rows) {
        int[] a = {columns, rows};
        if (shiftError(a) != 0) {
            return shiftError(a);
        }
        record();
        return doShift(a);
    }

    private int fault() {
        for (int i = 0; i < text.length(); i++) {
            Matcher start = ROW.matcher(text.substring(0, i + 1));
            if (!start.matches() && !start.hitEnd()) {
                return i;
            }
        }
        return ROW.matcher(text).matches() ? -1 : text.length();
    }

    int paint() {
        if (fault() >= 0) {
            return -100 - fault();
        }
        String[] orders = text.split(";");
        for (String order : orders) {
            int[] a = Arrays.stream(order.substring(1).split("[,=]")).mapToInt(Integer::parseInt).toArray();
            int error = order.charAt(0) == 'b' ? fillError(a) : shiftError(a);
            if (error != 0) {
                return error;
            }
        }
        record();
        for (String order : orders) {
            int[] a = Arrays.stream(order.substring(1).split("[,=]")).mapToInt(Integer::parseInt).toArray();
            int ignored = order.charAt(0) == 'b' ? doFill(a) : doShift(a);
        }
        return orders.length;
    }

    int setNumber(int what, int value) {
        int[][] ranges = {{9, 600}, {0, 240}, {0, 50}};
        if (!in(what, 0, 2) || !in(value, ranges[what][0], ranges[what][1])) {
            return BAD_VALUE;
        }
        int old = state.settings[what];
        if (old == value) {
            return NONE;
        }
        record();
        state.settings[what] = value;
        return old;
    }

    private static int away(int[][] one, int[][] other, int tile, int right, int down) {
        int top = tile / 3 * 4;
        int left = tile % 3 * 4;
        int sum = 0;
        for (int i = 0; i < 16; i++) {
            int r = top + i / 4;
            int c = left + i % 4;
            if (!in(r + down, 0, 11) || !in(c + right, 0, 11)) {
                return Integer.MAX_VALUE;
            }
            sum += Math.abs(one[r][c] - other[r + down][c + right]);
        }
        return sum;
    }

    private static int whole(int[][] one, int[][] other) {
        int sum = 0;
        for (int tile = 0; tile < 9; tile++) {
            sum += away(one, other, tile, 0, 0);
        }
        return sum;
    }

    private int found(int tile, int place) {
        return away(state.pictures[0], state.pictures[1], tile, spiral[place][0], spiral[place][1]);
    }

    private int code(int tile, int tolerance) {
        for (int place = 0; place < 25; place++) {
            if (found(tile, place) <= tolerance) {
                return place;
            }
        }
        return 25;
    }

    private static int bits(int code) {
        if (code == 0) {
            return 1;
        }
        if (code == 25) {
            return 66;
        }
        return 2 + (code <= 2 ? 1 : code <= 8 ? 3 : 5);
    }

    private int[] codes(int tolerance) {
        int[] codes = new int[9];
        for (int tile = 0; tile < 9; tile++) {
            codes[tile] = code(tile, tolerance);
        }
        return codes;
    }

    private static int bits(int[] codes) {
        return Arrays.stream(codes).map(Model::bits).sum();
    }

    private int can() {
        return state.settings[0] + state.saved;
    }

    private int since() {
        for (int i = state.frames.size() - 1; i >= 0; i--) {
            if (state.frames.get(i).keyed) {
                return state.frames.size() - 1 - i;
            }
        }
        return state.frames.size();
    }

    private int[][] received(int[][] screen, int[] codes) {
        int[][] next = new int[12][12];
        for (int r = 0; r < 12; r++) {
            for (int c = 0; c < 12; c++) {
                int code = codes[r / 4 * 3 + c / 4];
                next[r][c] = code == 25 ? state.pictures[0][r][c] : screen[r + spiral[code][1]][c + spiral[code][0]];
            }
        }
        return next;
    }

    private int send(boolean keyed, boolean lost) {
        record();
        int tolerance = keyed ? NONE : wouldNeed();
        int[] codes = codes(tolerance);
        if (keyed) {
            Arrays.fill(codes, 25);
        }
        state.saved = Math.min(600, can() - bits(codes));
        state.pictures[1] = received(state.pictures[1], codes);
        if (!lost) {
            state.pictures[2] = received(state.pictures[2], codes);
        }
        state.frames.add(new Frame(bits(codes), tolerance, keyed, lost, codes, whole(state.pictures[0], state.pictures[1])));
        return bits(codes);
    }

    int send(boolean lost) {
        int period = state.settings[2];
        return send(period != 0 && since() >= period && can() >= 594, lost);
    }

    int sendKeyed(boolean lost) {
        return can() < 594 ? NOT_POSSIBLE : send(true, lost);
    }

    int type(char character) {
        if (text.length() == 60) {
            return FULL;
        }
        text += character;
        return text.length();
    }

    int clearText() {
        int length = text.length();
        text = "";
        return length;
    }

    int undo() {
        if (history.isEmpty()) {
            return NONE;
        }
        state = history.removeLast();
        return history.size();
    }

    int keep() {
        snapshot = state.copy();
        return state.frames.size();
    }

    int restore() {
        if (snapshot == null) {
            return NONE;
        }
        record();
        state = snapshot.copy();
        return state.frames.size();
    }

    int point(int picture, int column, int row) {
        return in(picture, 0, 2) && in(column, 0, 11) && in(row, 0, 11) ? state.pictures[picture][row][column] : UNKNOWN;
    }

    int difference(int picture, int other, int tile) {
        if (!in(picture, 0, 2) || !in(other, 0, 2) || !in(tile, -1, 8)) {
            return UNKNOWN;
        }
        int[][] one = state.pictures[picture];
        int[][] two = state.pictures[other];
        return tile == -1 ? whole(one, two) : away(one, two, tile, 0, 0);
    }

    int spiral(int place, int what) {
        if (!in(place, 0, 24)) {
            return UNKNOWN;
        }
        if (!in(what, 0, 2)) {
            return BAD_VALUE;
        }
        return what == 2 ? bits(place) : 100 + spiral[place][what];
    }

    int wouldCode(int tile, int tolerance, int what) {
        if (!in(tile, 0, 8)) {
            return UNKNOWN;
        }
        if (!in(tolerance, 0, 240) || !in(what, 0, 3)) {
            return BAD_VALUE;
        }
        int code = code(tile, tolerance);
        return switch (what) {
            case 0 -> code == 0 ? 0 : code == 25 ? 2 : 1;
            case 1 -> code == 25 ? NONE : code;
            case 2 -> bits(code);
            default -> code == 25 ? 0 : found(tile, code);
        };
    }

    int wouldSpend(int tolerance) {
        return in(tolerance, 0, 240) ? bits(codes(tolerance)) : BAD_VALUE;
    }

    int wouldNeed() {
        int tolerance = state.settings[1];
        while (bits(codes(tolerance)) > can()) {
            tolerance++;
        }
        return tolerance;
    }

    int best(int tile, int what) {
        if (!in(tile, 0, 8)) {
            return UNKNOWN;
        }
        if (!in(what, 0, 1)) {
            return BAD_VALUE;
        }
        int place = 0;
        for (int other = 1; other < 25; other++) {
            place = found(tile, other) < found(tile, place) ? other : place;
        }
        return what == 0 ? place : found(tile, place);
    }

    private Frame back(int back) {
        return back < 8 && back < state.frames.size() ? state.frames.get(state.frames.size() - 1 - back) : null;
    }

    private static int kinds(Frame frame, int low, int high) {
        return (int) Arrays.stream(frame.codes).filter(code -> in(code, low, high)).count();
    }

    int frame(int back, int what) {
        if (back < 0 || !in(what, 0, 7)) {
            return BAD_VALUE;
        }
        Frame frame = back(back);
        if (frame == null) {
            return NONE;
        }
        return switch (what) {
            case 0 -> frame.bits;
            case 1 -> frame.tolerance;
            case 2 -> frame.keyed ? 1 : 0;
            case 3 -> frame.lost ? 1 : 0;
            case 4 -> kinds(frame, 0, 0);
            case 5 -> kinds(frame, 1, 24);
            case 6 -> kinds(frame, 25, 25);
            default -> frame.left;
        };
    }

    int sent(int back, int tile) {
        if (back < 0) {
            return BAD_VALUE;
        }
        if (!in(tile, 0, 8)) {
            return UNKNOWN;
        }
        return back(back) == null ? NONE : back(back).codes[tile];
    }

    int count(int what) {
        int[][] one = state.pictures[1];
        int[][] two = state.pictures[2];
        int points = 0;
        int tiles = 0;
        for (int i = 0; i < 144; i++) {
            points += one[i / 12][i % 12] != two[i / 12][i % 12] ? 1 : 0;
        }
        for (int tile = 0; tile < 9; tile++) {
            tiles += away(one, two, tile, 0, 0) > 0 ? 1 : 0;
        }
        return switch (what) {
            case 0, 1, 2 -> state.settings[what];
            case 3 -> state.saved;
            case 4 -> state.frames.size();
            case 5 -> (int) state.frames.stream().filter(Frame::keyed).count();
            case 6 -> (int) state.frames.stream().filter(Frame::lost).count();
            case 7 -> state.frames.stream().mapToInt(Frame::bits).sum();
            case 8 -> since();
            case 9 -> points;
            case 10 -> tiles;
            case 11 -> history.size();
            case 12 -> text.length();
            default -> BAD_VALUE;
        };
    }
}
