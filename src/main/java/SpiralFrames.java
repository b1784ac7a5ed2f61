/** Frames of a drawing that are sent by moved tiles; ../shared/DOC.md says what each call promises. */
public final class SpiralFrames {
    public static final int UNKNOWN = -1;
    public static final int BAD_VALUE = -2;
    public static final int FULL = -3;
    public static final int NOT_POSSIBLE = -4;
    public static final int NONE = -5;

    private static final int SIDE = 12;
    private static final int POINTS = 144;
    private static final int TILE_SIDE = 4;
    private static final int TILES_IN_ROW = 3;
    private static final int TILES = 9;
    private static final int HIGHEST_LEVEL = 15;

    private static final int PICTURES = 3;
    private static final int DRAWING = 0;
    private static final int SENDER = 1;

    private static final int PLACES = 25;
    private static final int[] STEPS_RIGHT = {
        0, 1, 1, 0, -1, -1, -1, 0, 1, 2, 2, 2, 2, 1, 0, -1, -2, -2, -2, -2, -2, -1, 0, 1, 2};
    private static final int[] STEPS_DOWN = {
        0, 0, 1, 1, 1, 0, -1, -1, -1, -1, 0, 1, 2, 2, 2, 2, 2, 1, 0, -1, -2, -2, -2, -2, -2};

    /** A code is the place by which its tile is found: 0 skips the tile, and this one is behind all places. */
    private static final int WHOLE = 25;
    private static final int SKIPPED = 0;
    private static final int MOVED = 1;
    private static final int WHOLE_KIND = 2;
    private static final int HIGHEST_TOLERANCE = 240;
    /** More than any tolerance, so that a place beyond the screen is never taken. */
    private static final int OUTSIDE = 1000;
    private static final int KEYED_BITS = 594;
    private static final int MOST_SAVED = 600;

    // The numbers of a state stand in the order in which count() tells them.
    private static final int BUDGET = 0;
    private static final int LEAST = 1;
    private static final int PERIOD = 2;
    private static final int SAVED = 3;
    private static final int FRAMES = 4;
    private static final int KEYED = 5;
    private static final int LOST = 6;
    private static final int BITS = 7;
    private static final int SINCE_KEYED = 8;
    private static final int NUMBERS = 9;
    private static final int FIRST_BUDGET = 200;
    private static final int[] LOWEST_SETTINGS = {9, 0, 0};
    private static final int[] HIGHEST_SETTINGS = {600, 240, 50};

    // A row of the log has the numbers in the order in which frame() tells them, and then a code for each tile.
    private static final int LOG_FRAMES = 8;
    private static final int LOG_BITS = 0;
    private static final int LOG_TOLERANCE = 1;
    private static final int LOG_KEYED = 2;
    private static final int LOG_LOST = 3;
    private static final int LOG_KINDS = 4;
    private static final int LOG_DIFFERENCE = 7;
    private static final int LOG_NUMBERS = 8;
    private static final int LOG_ROW = 17;

    private static final int MOST_SIGNS = 60;
    /** The shortest order has 4 signs and a ";" behind it. */
    private static final int MOST_ORDERS = 12;
    private static final int ORDER_PARTS = 6;
    private static final int BOX = 0;
    private static final int STEP = 1;
    private static final int NO_FAULT = -1;
    private static final int FAULT_BASE = -100;
    private static final int NO_ERROR = 0;

    private static final int HISTORY_STATES = 4;

    private final State now = new State();
    private final State[] history = new State[HISTORY_STATES];
    private int historyNext = 0;
    private int historyCount = 0;
    private State snapshot = null;
    private final Orders orders = new Orders();
    private final Finder finder = new Finder();
    /** Holds a picture as it was, while that picture is changed from itself. */
    private final Picture before = new Picture();
    private final int[] codes = new int[TILES];

    public SpiralFrames() {
    }

    // ---- the drawing

    public int set(int column, int row, int level) {
        if (!isPoint(column, row)) {
            return UNKNOWN;
        }
        if (!isBetween(level, 0, HIGHEST_LEVEL)) {
            return BAD_VALUE;
        }
        int previous = now.drawing.levelAt(column, row);
        if (previous == level) {
            return NONE;
        }
        record();
        now.drawing.putLevel(column, row, level);
        return previous;
    }

    public int fill(int column, int row, int columns, int rows, int level) {
        int error = boxError(column, row, columns, rows, level);
        if (error != NO_ERROR) {
            return error;
        }
        record();
        return now.drawing.putBox(column, row, columns, rows, level);
    }

    public int shift(int columns, int rows) {
        int error = stepError(columns, rows);
        if (error != NO_ERROR) {
            return error;
        }
        record();
        return now.drawing.moveBy(columns, rows, before);
    }

    public int paint() {
        int fault = orders.read();
        if (fault != NO_FAULT) {
            return FAULT_BASE - fault;
        }
        int error = firstOrderError();
        if (error != NO_ERROR) {
            return error;
        }
        record();
        int total = orders.total;
        for (int order = 0; order < total; order++) {
            doOrder(order);
        }
        return total;
    }

    // ---- settings

    public int setNumber(int what, int value) {
        if (!isBetween(what, BUDGET, PERIOD)) {
            return BAD_VALUE;
        }
        if (!isBetween(value, LOWEST_SETTINGS[what], HIGHEST_SETTINGS[what])) {
            return BAD_VALUE;
        }
        int previous = now.numbers[what];
        if (previous == value) {
            return NONE;
        }
        record();
        now.numbers[what] = value;
        return previous;
    }

    // ---- frames

    public int send(boolean isLost) {
        record();
        return sendFrame(now.isToBeKeyed() && now.canBeKeyed(), isLost);
    }

    public int sendKeyed(boolean isLost) {
        if (!now.canBeKeyed()) {
            return NOT_POSSIBLE;
        }
        record();
        return sendFrame(true, isLost);
    }

    // ---- texts

    public int type(char character) {
        return orders.add(character) ? orders.length : FULL;
    }

    public int clearText() {
        int length = orders.length;
        orders.length = 0;
        return length;
    }

    // ---- history

    public int undo() {
        if (historyCount <= 0) {
            return NONE;
        }
        int slot = Math.floorMod(historyNext - 1, HISTORY_STATES);
        State latest = history[slot];
        if (latest == null) {
            return NONE;
        }
        now.copyFrom(latest);
        historyNext = slot;
        historyCount--;
        return historyCount;
    }

    public int keep() {
        State kept = snapshot;
        if (kept == null) {
            kept = new State();
            snapshot = kept;
        }
        kept.copyFrom(now);
        return now.numbers[FRAMES];
    }

    public int restore() {
        State kept = snapshot;
        if (kept == null) {
            return NONE;
        }
        record();
        now.copyFrom(kept);
        return now.numbers[FRAMES];
    }

    // ---- what is told

    public int point(int picture, int column, int row) {
        if (!isPicture(picture) || !isPoint(column, row)) {
            return UNKNOWN;
        }
        return now.picture(picture).levelAt(column, row);
    }

    public int difference(int picture, int other, int tile) {
        if (!isPicture(picture) || !isPicture(other)) {
            return UNKNOWN;
        }
        if (tile == -1) {
            return now.picture(picture).wholeDifference(now.picture(other));
        }
        if (!isTile(tile)) {
            return UNKNOWN;
        }
        return now.picture(picture).tileDifference(now.picture(other), tile, 0);
    }

    public int spiral(int place, int what) {
        if (!isBetween(place, 0, PLACES - 1)) {
            return UNKNOWN;
        }
        switch (what) {
            case 0:
                return 100 + STEPS_RIGHT[place];
            case 1:
                return 100 + STEPS_DOWN[place];
            case 2:
                return bitsOf(place);
            default:
                return BAD_VALUE;
        }
    }

    public int wouldCode(int tile, int tolerance, int what) {
        if (!isTile(tile)) {
            return UNKNOWN;
        }
        if (!isBetween(tolerance, 0, HIGHEST_TOLERANCE)) {
            return BAD_VALUE;
        }
        finder.compareTile(now.drawing, now.sender, tile);
        int code = finder.codeOf(tile, tolerance);
        switch (what) {
            case 0:
                return kindOf(code);
            case 1:
                return code == WHOLE ? NONE : code;
            case 2:
                return bitsOf(code);
            case 3:
                return code == WHOLE ? 0 : finder.differenceAt(tile, code);
            default:
                return BAD_VALUE;
        }
    }

    public int wouldSpend(int tolerance) {
        if (!isBetween(tolerance, 0, HIGHEST_TOLERANCE)) {
            return BAD_VALUE;
        }
        finder.compareAll(now.drawing, now.sender);
        return finder.bitsWith(tolerance);
    }

    public int wouldNeed() {
        finder.compareAll(now.drawing, now.sender);
        return finder.neededTolerance(now.numbers[LEAST], now.spendable());
    }

    public int best(int tile, int what) {
        if (!isTile(tile)) {
            return UNKNOWN;
        }
        if (!isBetween(what, 0, 1)) {
            return BAD_VALUE;
        }
        finder.compareTile(now.drawing, now.sender, tile);
        int place = finder.bestPlace(tile);
        return what == 0 ? place : finder.differenceAt(tile, place);
    }

    public int frame(int back, int what) {
        if (back < 0 || !isBetween(what, 0, LOG_NUMBERS - 1)) {
            return BAD_VALUE;
        }
        return now.knowsFrame(back) ? now.logged(back, what) : NONE;
    }

    public int sent(int back, int tile) {
        if (back < 0) {
            return BAD_VALUE;
        }
        if (!isTile(tile)) {
            return UNKNOWN;
        }
        return now.knowsFrame(back) ? now.logged(back, LOG_NUMBERS + tile) : NONE;
    }

    public int count(int what) {
        if (isBetween(what, 0, NUMBERS - 1)) {
            return now.numbers[what];
        }
        switch (what) {
            case 9:
                return now.sender.unlikePoints(now.receiver);
            case 10:
                return now.sender.unlikeTiles(now.receiver);
            case 11:
                return historyCount;
            case 12:
                return orders.length;
            default:
                return BAD_VALUE;
        }
    }

    // ---- ranges

    private static boolean isBetween(int number, int lowest, int highest) {
        return number >= lowest && number <= highest;
    }

    private static boolean isPoint(int column, int row) {
        return column >= 0 && column < SIDE && row >= 0 && row < SIDE;
    }

    private static boolean isPicture(int picture) {
        return picture >= 0 && picture < PICTURES;
    }

    private static boolean isTile(int tile) {
        return tile >= 0 && tile < TILES;
    }

    private static int boxError(int column, int row, int columns, int rows, int level) {
        if (!isPoint(column, row)) {
            return UNKNOWN;
        }
        boolean isRight = isBetween(columns, 1, SIDE) && isBetween(rows, 1, SIDE)
            && isBetween(level, 0, HIGHEST_LEVEL);
        return isRight ? NO_ERROR : BAD_VALUE;
    }

    private static int stepError(int columns, int rows) {
        boolean isRight = isBetween(columns, 1 - SIDE, SIDE - 1) && isBetween(rows, 1 - SIDE, SIDE - 1);
        return isRight ? NO_ERROR : BAD_VALUE;
    }

    // ---- tiles and codes

    private static int tileColumn(int tile) {
        return tile % TILES_IN_ROW * TILE_SIDE;
    }

    private static int tileRow(int tile) {
        return tile / TILES_IN_ROW * TILE_SIDE;
    }

    private static int stepRight(int place) {
        return isBetween(place, 0, PLACES - 1) ? STEPS_RIGHT[place] : 0;
    }

    private static int stepDown(int place) {
        return isBetween(place, 0, PLACES - 1) ? STEPS_DOWN[place] : 0;
    }

    private static boolean isWithin(int tile, int place) {
        int column = tileColumn(tile) + stepRight(place);
        int row = tileRow(tile) + stepDown(place);
        return isPoint(column, row) && isPoint(column + TILE_SIDE - 1, row + TILE_SIDE - 1);
    }

    private static int kindOf(int code) {
        if (code == 0) {
            return SKIPPED;
        }
        return code == WHOLE ? WHOLE_KIND : MOVED;
    }

    private static int bitsOf(int code) {
        if (code == 0) {
            return 1;
        }
        if (code <= 2) {
            return 3;
        }
        if (code <= 8) {
            return 5;
        }
        return code == WHOLE ? 66 : 7;
    }

    // ---- orders

    private int firstOrderError() {
        int total = orders.total;
        for (int order = 0; order < total; order++) {
            int error = orderError(order);
            if (error != NO_ERROR) {
                return error;
            }
        }
        return NO_ERROR;
    }

    private int orderError(int order) {
        if (orders.part(order, 0) == STEP) {
            return stepError(orders.part(order, 1), orders.part(order, 2));
        }
        return boxError(orders.part(order, 1), orders.part(order, 2), orders.part(order, 3),
            orders.part(order, 4), orders.part(order, 5));
    }

    private void doOrder(int order) {
        if (orders.part(order, 0) == STEP) {
            now.drawing.moveBy(orders.part(order, 1), orders.part(order, 2), before);
        } else {
            now.drawing.putBox(orders.part(order, 1), orders.part(order, 2), orders.part(order, 3),
                orders.part(order, 4), orders.part(order, 5));
        }
    }

    // ---- sending

    private int sendFrame(boolean isKeyed, boolean isLost) {
        finder.compareAll(now.drawing, now.sender);
        int tolerance = isKeyed ? NONE : finder.neededTolerance(now.numbers[LEAST], now.spendable());
        for (int tile = 0; tile < TILES; tile++) {
            codes[tile] = isKeyed ? WHOLE : finder.codeOf(tile, tolerance);
        }
        applyCodes(now.sender);
        if (!isLost) {
            applyCodes(now.receiver);
        }
        int bits = bitsOfCodes();
        logFrame(bits, tolerance, isKeyed, isLost);
        countFrame(bits, isKeyed, isLost);
        return bits;
    }

    private void applyCodes(Picture screen) {
        before.copyFrom(screen);
        for (int tile = 0; tile < TILES; tile++) {
            int code = codes[tile];
            if (code == WHOLE) {
                screen.takeTile(now.drawing, tile, 0);
            } else if (code != 0) {
                screen.takeTile(before, tile, code);
            }
        }
    }

    private int bitsOfCodes() {
        int bits = 0;
        for (int tile = 0; tile < TILES; tile++) {
            bits += bitsOf(codes[tile]);
        }
        return bits;
    }

    private int tilesOfKind(int kind) {
        int tiles = 0;
        for (int tile = 0; tile < TILES; tile++) {
            tiles += kindOf(codes[tile]) == kind ? 1 : 0;
        }
        return tiles;
    }

    private void logFrame(int bits, int tolerance, boolean isKeyed, boolean isLost) {
        now.putInLog(LOG_BITS, bits);
        now.putInLog(LOG_TOLERANCE, tolerance);
        now.putInLog(LOG_KEYED, isKeyed ? 1 : 0);
        now.putInLog(LOG_LOST, isLost ? 1 : 0);
        for (int kind = SKIPPED; kind <= WHOLE_KIND; kind++) {
            now.putInLog(LOG_KINDS + kind, tilesOfKind(kind));
        }
        now.putInLog(LOG_DIFFERENCE, now.drawing.wholeDifference(now.sender));
        for (int tile = 0; tile < TILES; tile++) {
            now.putInLog(LOG_NUMBERS + tile, codes[tile]);
        }
    }

    private void countFrame(int bits, boolean isKeyed, boolean isLost) {
        int[] numbers = now.numbers;
        numbers[SAVED] = Math.min(MOST_SAVED, now.spendable() - bits);
        numbers[FRAMES]++;
        numbers[BITS] += bits;
        numbers[SINCE_KEYED]++;
        if (isKeyed) {
            numbers[KEYED]++;
            numbers[SINCE_KEYED] = 0;
        }
        if (isLost) {
            numbers[LOST]++;
        }
    }

    // ---- history

    private void record() {
        int slot = Math.floorMod(historyNext, HISTORY_STATES);
        State recorded = history[slot];
        if (recorded == null) {
            recorded = new State();
            history[slot] = recorded;
        }
        recorded.copyFrom(now);
        historyNext = Math.floorMod(slot + 1, HISTORY_STATES);
        historyCount = Math.min(HISTORY_STATES, historyCount + 1);
    }

    private static final class Picture {
        private final int[] levels = new int[POINTS];

        /** A point beyond the picture is 0, as are the points that come in when a drawing is moved. */
        private int levelAt(int column, int row) {
            return isPoint(column, row) ? levels[row * SIDE + column] : 0;
        }

        private void putLevel(int column, int row, int level) {
            if (isPoint(column, row)) {
                levels[row * SIDE + column] = level;
            }
        }

        private void copyFrom(Picture other) {
            System.arraycopy(other.levels, 0, levels, 0, POINTS);
        }

        /** Answers how many points are different then. */
        private int putBox(int column, int row, int columns, int rows, int level) {
            int endColumn = Math.min(SIDE, column + columns);
            int endRow = Math.min(SIDE, row + rows);
            int unlike = 0;
            for (int y = row; y < endRow; y++) {
                for (int x = column; x < endColumn; x++) {
                    unlike += levelAt(x, y) == level ? 0 : 1;
                    putLevel(x, y, level);
                }
            }
            return unlike;
        }

        /** Answers how many points are different then. */
        private int moveBy(int columns, int rows, Picture before) {
            before.copyFrom(this);
            for (int y = 0; y < SIDE; y++) {
                for (int x = 0; x < SIDE; x++) {
                    putLevel(x, y, before.levelAt(x - columns, y - rows));
                }
            }
            return unlikePoints(before);
        }

        /** The tile becomes the 16 points of the source that are found by the place. */
        private void takeTile(Picture source, int tile, int place) {
            int column = tileColumn(tile);
            int row = tileRow(tile);
            int right = stepRight(place);
            int down = stepDown(place);
            for (int y = row; y < row + TILE_SIDE; y++) {
                for (int x = column; x < column + TILE_SIDE; x++) {
                    putLevel(x, y, source.levelAt(x + right, y + down));
                }
            }
        }

        /** The tile here against the 16 points of the other picture that are found by the place. */
        private int tileDifference(Picture other, int tile, int place) {
            int column = tileColumn(tile);
            int row = tileRow(tile);
            int right = stepRight(place);
            int down = stepDown(place);
            int sum = 0;
            for (int y = row; y < row + TILE_SIDE; y++) {
                for (int x = column; x < column + TILE_SIDE; x++) {
                    sum += Math.abs(levelAt(x, y) - other.levelAt(x + right, y + down));
                }
            }
            return sum;
        }

        private int wholeDifference(Picture other) {
            int sum = 0;
            for (int tile = 0; tile < TILES; tile++) {
                sum += tileDifference(other, tile, 0);
            }
            return sum;
        }

        private int unlikePoints(Picture other) {
            int unlike = 0;
            for (int point = 0; point < POINTS; point++) {
                unlike += levels[point] == other.levels[point] ? 0 : 1;
            }
            return unlike;
        }

        private int unlikeTiles(Picture other) {
            int unlike = 0;
            for (int tile = 0; tile < TILES; tile++) {
                unlike += tileDifference(other, tile, 0) == 0 ? 0 : 1;
            }
            return unlike;
        }
    }

    /** Everything that undo() and restore() bring back. */
    private static final class State {
        private final Picture drawing = new Picture();
        private final Picture sender = new Picture();
        private final Picture receiver = new Picture();
        private final int[] numbers = new int[NUMBERS];
        private final int[] log = new int[LOG_FRAMES * LOG_ROW];

        private State() {
            numbers[BUDGET] = FIRST_BUDGET;
        }

        private void copyFrom(State other) {
            drawing.copyFrom(other.drawing);
            sender.copyFrom(other.sender);
            receiver.copyFrom(other.receiver);
            System.arraycopy(other.numbers, 0, numbers, 0, NUMBERS);
            System.arraycopy(other.log, 0, log, 0, LOG_FRAMES * LOG_ROW);
        }

        private Picture picture(int number) {
            if (number == DRAWING) {
                return drawing;
            }
            return number == SENDER ? sender : receiver;
        }

        private int spendable() {
            return numbers[BUDGET] + numbers[SAVED];
        }

        private boolean canBeKeyed() {
            return KEYED_BITS <= spendable();
        }

        private boolean isToBeKeyed() {
            return numbers[PERIOD] > 0 && numbers[SINCE_KEYED] >= numbers[PERIOD];
        }

        private boolean knowsFrame(int back) {
            return back >= 0 && back < Math.min(LOG_FRAMES, numbers[FRAMES]);
        }

        private int logged(int back, int part) {
            int index = logIndex(numbers[FRAMES] - 1 - back, part);
            return isBetween(index, 0, log.length - 1) ? log[index] : NONE;
        }

        /** Puts a number of the frame that is sent now, whose row is that of the oldest one that is known. */
        private void putInLog(int part, int number) {
            int index = logIndex(numbers[FRAMES], part);
            if (isBetween(index, 0, log.length - 1)) {
                log[index] = number;
            }
        }

        private static int logIndex(int frame, int part) {
            return Math.floorMod(frame, LOG_FRAMES) * LOG_ROW + part;
        }
    }

    /** Where the tiles of the drawing are found on the screen of the sender. */
    private static final class Finder {
        private final int[] differences = new int[TILES * PLACES];

        private void compareAll(Picture drawing, Picture screen) {
            for (int tile = 0; tile < TILES; tile++) {
                compareTile(drawing, screen, tile);
            }
        }

        private void compareTile(Picture drawing, Picture screen, int tile) {
            if (!isTile(tile)) {
                return;
            }
            for (int place = 0; place < PLACES; place++) {
                differences[tile * PLACES + place] = isWithin(tile, place)
                    ? drawing.tileDifference(screen, tile, place) : OUTSIDE;
            }
        }

        private int differenceAt(int tile, int place) {
            boolean isKnown = isTile(tile) && isBetween(place, 0, PLACES - 1);
            return isKnown ? differences[tile * PLACES + place] : OUTSIDE;
        }

        private int codeOf(int tile, int tolerance) {
            for (int place = 0; place < PLACES; place++) {
                if (differenceAt(tile, place) <= tolerance) {
                    return place;
                }
            }
            return WHOLE;
        }

        private int bestPlace(int tile) {
            int found = 0;
            for (int place = 1; place < PLACES; place++) {
                if (differenceAt(tile, place) < differenceAt(tile, found)) {
                    found = place;
                }
            }
            return found;
        }

        private int bitsWith(int tolerance) {
            int bits = 0;
            for (int tile = 0; tile < TILES; tile++) {
                bits += bitsOf(codeOf(tile, tolerance));
            }
            return bits;
        }

        private int neededTolerance(int least, int spendable) {
            for (int tolerance = least; tolerance < HIGHEST_TOLERANCE; tolerance++) {
                if (bitsWith(tolerance) <= spendable) {
                    return tolerance;
                }
            }
            return HIGHEST_TOLERANCE;
        }
    }

    /** The text, and the orders that it tells. */
    private static final class Orders {
        private final char[] signs = new char[MOST_SIGNS];
        private int length = 0;
        private int at = 0;
        private final int[] parts = new int[MOST_ORDERS * ORDER_PARTS];
        private int total = 0;

        private boolean add(char sign) {
            if (length < 0 || length >= MOST_SIGNS) {
                return false;
            }
            signs[length] = sign;
            length++;
            return true;
        }

        private int part(int order, int part) {
            int index = order * ORDER_PARTS + part;
            return isBetween(index, 0, parts.length - 1) ? parts[index] : 0;
        }

        private void putPart(int index, int number) {
            if (isBetween(index, 0, parts.length - 1)) {
                parts[index] = number;
            }
        }

        /** Answers the fault of the text, or NO_FAULT; reading stands at the fault when it fails. */
        private int read() {
            at = 0;
            total = 0;
            for (int order = 0; order < MOST_ORDERS; order++) {
                if (!readOrder(order * ORDER_PARTS)) {
                    return at;
                }
                total++;
                if (at >= length) {
                    return NO_FAULT;
                }
                if (!takes(';')) {
                    return at;
                }
            }
            return at;
        }

        private boolean readOrder(int part) {
            if (takes('b')) {
                putPart(part, BOX);
                return readNumber(part + 1, false) && takes(',') && readNumber(part + 2, false)
                    && takes(',') && readNumber(part + 3, false) && takes(',')
                    && readNumber(part + 4, false) && takes('=') && readNumber(part + 5, false);
            }
            if (takes('s')) {
                putPart(part, STEP);
                return readNumber(part + 1, true) && takes(',') && readNumber(part + 2, true);
            }
            return false;
        }

        private boolean readNumber(int part, boolean mayBeNegative) {
            boolean isNegative = mayBeNegative && takes('-');
            int number = digitHere();
            if (number < 0 || isNegative && number == 0) {
                return false;
            }
            at++;
            int second = number == 0 ? -1 : digitHere();
            if (second >= 0) {
                number = number * 10 + second;
                at++;
            }
            putPart(part, isNegative ? -number : number);
            return true;
        }

        private boolean takes(char sign) {
            if (signHere() != sign) {
                return false;
            }
            at++;
            return true;
        }

        private int digitHere() {
            int sign = signHere();
            return isBetween(sign, '0', '9') ? sign - '0' : -1;
        }

        /** Behind the text there is no sign, which is none of those that an order has. */
        private int signHere() {
            if (at < 0 || at >= length || at >= MOST_SIGNS) {
                return -1;
            }
            return signs[at];
        }
    }
}
