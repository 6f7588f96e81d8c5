import java.util.Arrays;

/** A log with its faults, the boards that a saw can open from it, and the orders that they meet. */
public final class LogSawyer {
    public static final int NONE = -1, BAD = -2, STATE = -3, FULL = -4;
    public static final long NO = -4611686018427387904L;

    private static final int MISSING = -11, OUTSIDE = -12, UNLIKE = -13, BELOW_ZERO = -14;
    private static final int ITEM_FAULT = -100;

    private static final int SIDE = 12, CELLS = SIDE * SIDE, MOST_SLICES = 8, TURNS = 4;
    private static final int MOST_FAULTS = 8, KINDS = 7, ANGLES = 8, MOST_SIZE = 4;
    private static final int MOST_BOARDS = 16, MOST_ORDERS = 6, PARTS = 4;
    private static final int TAPE_BYTES = 40, SHEETS = 4, SHEET_ITEMS = 40;
    private static final int MOST_THICKNESS = 4, MOST_KERF = 2, GRADES = 4, WORST_HURT = 9;
    private static final int MOST_SEEDS = 8, DRAWN_FAULTS = 2, LONGS = 0, INTS = 1;

    private static final int KERF = 0, SAVE = 1, PRICES = 2, THICK = 6, RULES = 7;
    private static final int[] RULE_MOST = {2, 1, 99, 99, 99, 99, 30};
    private static final int[] RULE_FIRST = {1, 1, 9, 6, 3, 1, 12};

    private static final int[] ANGLE_U = {1, 1, 0, -1, -1, -1, 0, 1};
    private static final int[] ANGLE_V = {0, 1, 1, 1, 0, -1, -1, -1};

    private static final String LETTERS = "klshrot";

    private final Yard yard = new Yard();
    private final Yard kept = new Yard();
    private boolean hasImage = false;

    // What the log gives as it lies is worked out once for many calls; what is only thought of has a saw of its own.
    private final Saw lies = new Saw();
    private final Saw thought = new Saw();
    private final Fault[] thoughtFaults = new Fault[MOST_FAULTS];

    private final int[] tape = new int[TAPE_BYTES];
    private int tapeSize = 0;

    private final int[] sheetSort = new int[SHEETS];
    private final int[] sheetSize = new int[SHEETS];
    private final long[] sheetItems = new long[SHEETS * SHEET_ITEMS];

    // For each order the boards (bits) that meet it.
    private final int[] meeting = new int[MOST_ORDERS];
    private final int[] turnWorths = new int[TURNS];

    public LogSawyer() {
        Arrays.fill(sheetSort, NONE);
    }

    // ---- the log, faults

    public int log(int radius, int taper, int length) {
        if (!within(radius, 2, 6) || !within(taper, 0, 4) || !within(length, 1, MOST_SLICES)) {
            return BAD;
        }
        yard.lay(radius, taper, length);
        lies.laid = false;
        return woodOfLog();
    }

    private int woodOfLog() {
        int wood = 0;
        for (int slice = 0; slice < yard.length; slice++) {
            for (int cell = 0; cell < CELLS; cell++) {
                if (yard.isWood(cell % SIDE, cell / SIDE, slice)) {
                    wood++;
                }
            }
        }
        return wood;
    }

    public int feed(int n, int a, int b, int c, int d, int e) {
        if (!within(n, 1, 5) || !isByte(a) || !isByte(b) || !isByte(c) || !isByte(d) || !isByte(e)) {
            return BAD;
        }
        if (tapeSize + n > TAPE_BYTES) {
            return FULL;
        }
        feedOne(a, n >= 1);
        feedOne(b, n >= 2);
        feedOne(c, n >= 3);
        feedOne(d, n >= 4);
        feedOne(e, n >= 5);
        return tapeSize;
    }

    private void feedOne(int v, boolean asked) {
        if (asked && tapeSize < TAPE_BYTES) {
            tape[tapeSize] = v;
            tapeSize++;
        }
    }

    public int text() {
        if (!yard.hasLog()) {
            return STATE;
        }
        int size = tapeSize;
        int wrong = wrongPlace(size);
        tapeSize = 0;
        if (wrong != NONE) {
            return ITEM_FAULT - wrong;
        }
        if (yard.faultCount + itemsOf(size) > MOST_FAULTS) {
            return FULL;
        }
        readItems(size);
        lies.laid = false;
        return yard.faultCount;
    }

    /** The place of the first byte of the tape that can't stand there; NONE if all is items. */
    private int wrongPlace(int size) {
        int part = 0;
        boolean any = false;
        for (int i = 0; i < size && i < TAPE_BYTES; i++) {
            if (part == 0 && isBlank(tape[i])) {
                continue;
            }
            if (!canBePart(tape[i], part)) {
                return i;
            }
            any = true;
            part = (part + 1) % PARTS;
        }
        return any && part == 0 ? NONE : size;
    }

    private static boolean isBlank(int v) {
        return v == ' ' || v == '\n';
    }

    private static boolean canBePart(int v, int part) {
        if (part == 0) {
            return kindOf(v) >= 0;
        }
        return part == 3 ? within(v, '1', '4') : within(v, '0', '7');
    }

    private static int kindOf(int v) {
        return LETTERS.indexOf((char) v);
    }

    /** On a tape of items alone each letter begins one. */
    private int itemsOf(int size) {
        int items = 0;
        for (int i = 0; i < size && i < TAPE_BYTES; i++) {
            if (kindOf(tape[i]) >= 0) {
                items++;
            }
        }
        return items;
    }

    private void readItems(int size) {
        for (int i = 0; i + 3 < size && i + 3 < TAPE_BYTES; i++) {
            int kind = kindOf(tape[i]);
            if (kind >= 0) {
                yard.addFault(newFault(kind, tape[i + 1] - '0', tape[i + 2] - '0', tape[i + 3] - '0'));
            }
        }
    }

    private static Fault newFault(int kind, int angle, int slice, int size) {
        switch (kind) {
            case 0: return new Knot(angle, slice, size);
            case 1: return new Loose(angle, slice, size);
            case 2: return new Spike(angle, slice, size);
            case 3: return new Shake(angle, slice, size);
            case 4: return new Ring(angle, slice, size);
            case 5: return new Rot(angle, slice, size);
            default: return new Stain(angle, slice, size);
        }
    }

    public int fault(int kind, int angle, int slice, int size) {
        if (!yard.hasLog()) {
            return STATE;
        }
        if (!within(kind, 0, KINDS - 1) || !within(angle, 0, ANGLES - 1)
                || !within(slice, 0, MOST_SLICES - 1) || !within(size, 1, MOST_SIZE)) {
            return BAD;
        }
        if (yard.faultCount >= MOST_FAULTS) {
            return FULL;
        }
        yard.addFault(newFault(kind, angle, slice, size));
        lies.laid = false;
        return yard.faultCount - 1;
    }

    public int heal(int fault) {
        if (yard.faultOf(fault) == null) {
            return BAD;
        }
        yard.dropFault(fault);
        lies.laid = false;
        return yard.faultCount;
    }

    public int told(int fault, int what) {
        Fault one = yard.faultOf(fault);
        if (one == null) {
            return BAD;
        }
        switch (what) {
            case 0: return one.kind();
            case 1: return one.angle;
            case 2: return one.slice;
            case 3: return one.size;
            case 4: return yard.woodIn(one);
            case 5: return one.slicesOf(yard.length);
            case 6: return one.hurts();
            default: return BAD;
        }
    }

    public int taken(int fault, int k) {
        Fault one = yard.faultOf(fault);
        if (one == null || !within(k, 0, KINDS - 1)) {
            return BAD;
        }
        return isUnder(one, k) ? one.cellsOfSlice() : UNLIKE;
    }

    private static boolean isUnder(Fault one, int kind) {
        switch (kind) {
            case 0: return one instanceof Knot;
            case 1: return one instanceof Loose;
            case 2: return one instanceof Spike;
            case 3: return one instanceof Shake;
            case 4: return one instanceof Ring;
            case 5: return one instanceof Rot;
            default: return one instanceof Stain;
        }
    }

    public int turn(int t) {
        if (!yard.hasLog()) {
            return STATE;
        }
        if (!within(t, 0, TURNS - 1)) {
            return BAD;
        }
        int was = yard.turn;
        yard.turn = t;
        lies.laid = false;
        return was;
    }

    public int rule(int what, int v) {
        if (!within(what, 0, RULES - 1) || !within(v, 0, RULE_MOST[what])) {
            return BAD;
        }
        if (what == THICK && v % 2 != 0) {
            return BAD;
        }
        int was = yard.rules[what];
        yard.rules[what] = v;
        lies.laid = false;
        return was;
    }

    public int cell(int x, int y, int slice, int what) {
        if (!yard.hasLog()) {
            return STATE;
        }
        if (!within(x, 0, SIDE - 1) || !within(y, 0, SIDE - 1) || !within(slice, 0, yard.length - 1)) {
            return BAD;
        }
        switch (what) {
            case 0: return yard.isWood(x, y, slice) ? 1 : 0;
            case 1: return asItLies().hurtOf(x, y, slice);
            case 2: return yard.leastFaultIn(ownX(yard.turn, x, y), ownY(yard.turn, x, y), slice);
            default: return BAD;
        }
    }

    /** The x that the cell has on the log itself, where x, y is as the log lies. */
    private static int ownX(int turn, int x, int y) {
        switch (turn) {
            case 1: return y;
            case 2: return SIDE - 1 - x;
            case 3: return SIDE - 1 - y;
            default: return x;
        }
    }

    private static int ownY(int turn, int x, int y) {
        return ownX((turn + 1) % TURNS, x, y);
    }

    /** u of an x, v of a y. */
    private static int fromMiddle(int place) {
        return 2 * place - (SIDE - 1);
    }

    private static boolean within(int v, int least, int most) {
        return v >= least && v <= most;
    }

    private static boolean isByte(int v) {
        return within(v, 0, 255);
    }

    // ---- boards

    public int board(int y, int thickness, int what) {
        if (!yard.hasLog()) {
            return STATE;
        }
        if (!isBoard(y, thickness) || !within(what, 0, 6)) {
            return BAD;
        }
        Piece best = asItLies().bestPiece(y, thickness);
        if (best.worth == 0) {
            return NONE;
        }
        switch (what) {
            case 0: return best.a;
            case 1: return best.b;
            case 2: return best.s;
            case 3: return best.t;
            case 4: return best.grade;
            case 5: return best.upper;
            default: return best.lower;
        }
    }

    private static boolean isBoard(int y, int thickness) {
        return within(thickness, 1, MOST_THICKNESS) && within(y, 0, SIDE - thickness);
    }

    public int graded(int y, int thickness, int a, int b, int slices) {
        if (!yard.hasLog()) {
            return STATE;
        }
        if (!isBoard(y, thickness) || !within(slices, 0, 8 * MOST_SLICES - 1)) {
            return BAD;
        }
        int s = slices / 8;
        int t = slices % 8;
        if (!within(b, 0, SIDE - 1) || !within(a, 0, b) || t >= yard.length || s > t) {
            return BAD;
        }
        Saw saw = asItLies();
        return saw.isAllWood(y, thickness, a, b, t) ? saw.gradeOf(y, thickness, a, b, s, t) : NONE;
    }

    public long worth(int y, int thickness) {
        if (!yard.hasLog() || !isBoard(y, thickness)) {
            return NO;
        }
        return asItLies().bestPiece(y, thickness).worth;
    }

    public int opening(int k, int what) {
        if (!yard.hasLog()) {
            return STATE;
        }
        if (!within(what, 0, 2)) {
            return BAD;
        }
        Saw saw = openedAsItLies();
        if (k == NONE) {
            return saw.boardCount;
        }
        if (!within(k, 0, saw.boardCount - 1)) {
            return OUTSIDE;
        }
        switch (what) {
            case 0: return saw.rowAt(k);
            case 1: return saw.thicknessAt(k);
            default: return saw.gradeAt(k);
        }
    }

    public long best(int turn) {
        if (!yard.hasLog() || !within(turn, NONE, TURNS - 1)) {
            return NO;
        }
        return turn == NONE ? turnWorths[turnOfMost()] : openByTurn(turn);
    }

    public int bestTurn() {
        return yard.hasLog() ? turnOfMost() : STATE;
    }

    private int turnOfMost() {
        int most = 0;
        for (int t = 0; t < TURNS; t++) {
            turnWorths[t] = openByTurn(t);
            if (turnWorths[t] > turnWorths[most]) {
                most = t;
            }
        }
        return most;
    }

    /** Opens the log by a turn in thought: what that is worth. */
    private int openByTurn(int t) {
        thought.lay(yard, t, yard.faults, yard.faultCount);
        return thought.open(yard.rules[KERF]);
    }

    private Saw asItLies() {
        if (!lies.laid) {
            lies.lay(yard, yard.turn, yard.faults, yard.faultCount);
        }
        return lies;
    }

    private Saw openedAsItLies() {
        Saw saw = asItLies();
        if (!saw.opened) {
            saw.open(yard.rules[KERF]);
        }
        return saw;
    }

    // ---- the stack, orders

    public int saw() {
        if (!yard.hasLog()) {
            return STATE;
        }
        Saw saw = openedAsItLies();
        if (yard.boardCount + saw.boardCount > MOST_BOARDS) {
            return FULL;
        }
        for (int k = 0; k < saw.boardCount; k++) {
            Piece piece = saw.pieceAt(k);
            yard.addBoard(saw.thicknessAt(k), piece.b - piece.a + 1, piece.t - piece.s + 1, piece.grade);
        }
        yard.lay(0, 0, 0);
        lies.laid = false;
        return saw.boardCount;
    }

    public int stack(int k, int what) {
        if (!within(what, 0, PARTS - 1)) {
            return BAD;
        }
        if (k == NONE) {
            return yard.boardCount;
        }
        return within(k, 0, yard.boardCount - 1) ? yard.boards[PARTS * k + what] : OUTSIDE;
    }

    public int order(int thickness, int grade, int width, int length) {
        if (!within(thickness, 1, MOST_THICKNESS) || !within(grade, 0, GRADES - 1)
                || !within(width, 1, SIDE) || !within(length, 1, MOST_SLICES)) {
            return BAD;
        }
        if (yard.orderCount >= MOST_ORDERS) {
            return FULL;
        }
        yard.addOrder(thickness, width, length, grade);
        return yard.orderCount - 1;
    }

    public int met(int what) {
        if (!within(what, 0, 1)) {
            return BAD;
        }
        findMeeting();
        return what == 0 ? ordersMet() : Integer.bitCount(boardsMeeting((1 << yard.orderCount) - 1));
    }

    private void findMeeting() {
        for (int order = 0; order < yard.orderCount && order < MOST_ORDERS; order++) {
            meeting[order] = yard.boardsThatMeet(order);
        }
    }

    /** The boards (bits) that meet some order of these. */
    private int boardsMeeting(int orders) {
        int boards = 0;
        for (int order = 0; order < MOST_ORDERS; order++) {
            if (has(orders, order)) {
                boards |= meeting[order];
            }
        }
        return boards;
    }

    /** Each order can have a board of its own just if no few orders have fewer boards among them (Hall). */
    private boolean canBeMet(int orders, int boards) {
        for (int few = 1; few <= orders; few++) {
            if ((few & ~orders) == 0
                    && Integer.bitCount(boardsMeeting(few) & boards) < Integer.bitCount(few)) {
                return false;
            }
        }
        return true;
    }

    private int ordersMet() {
        int boards = (1 << yard.boardCount) - 1;
        int orders = 0;
        for (int order = 0; order < yard.orderCount; order++) {
            if (canBeMet(orders | 1 << order, boards)) {
                orders |= 1 << order;
            }
        }
        return orders;
    }

    private static boolean has(int bits, int bit) {
        return (bits >> bit & 1) == 1;
    }

    public int serve() {
        findMeeting();
        int orders = ordersMet();
        int boards = (1 << yard.boardCount) - 1;
        int others = orders;
        for (int order = 0; order < MOST_ORDERS; order++) {
            if (has(orders, order)) {
                others &= ~(1 << order);
                boards &= ~boardFor(order, others, boards);
            }
        }
        yard.keepBoards(boards);
        yard.keepOrders(~orders);
        return Integer.bitCount(orders);
    }

    /** The bit of the least board with which the others still can be met. */
    private int boardFor(int order, int others, int boards) {
        for (int board = 0; board < MOST_BOARDS; board++) {
            int bit = 1 << board;
            if ((meeting[order] & boards & bit) != 0 && canBeMet(others, boards & ~bit)) {
                return bit;
            }
        }
        return 0;
    }

    // ---- in thought

    public long without(int fault) {
        if (yard.faultOf(fault) == null) {
            return NO;
        }
        int n = 0;
        for (int i = 0; i < yard.faultCount; i++) {
            if (i != fault) {
                thoughtFaults[n] = yard.faultOf(i);
                n++;
            }
        }
        return worthInThought(n);
    }

    private int worthInThought(int faultCount) {
        thought.lay(yard, yard.turn, thoughtFaults, faultCount);
        return thought.open(yard.rules[KERF]);
    }

    public long drawn(int seed, int n) {
        if (!yard.hasLog() || !within(n, 0, MOST_FAULTS)) {
            return NO;
        }
        return worthInThought(drawFaults(seed, n));
    }

    /** Thinks of the log's faults and n more: how many there are then. */
    private int drawFaults(int seed, int n) {
        int faultCount = yard.faultCount;
        for (int i = 0; i < faultCount; i++) {
            thoughtFaults[i] = yard.faultOf(i);
        }
        int z = seed;
        for (int i = 0; i < n && faultCount < MOST_FAULTS; i++) {
            int ofKind = next(z);
            int ofAngle = next(ofKind);
            int ofSlice = next(ofAngle);
            z = next(ofSlice);
            thoughtFaults[faultCount] = newFault((ofKind >>> 9) % KINDS, (ofAngle >>> 9) % ANGLES,
                    (ofSlice >>> 9) % MOST_SLICES, (z >>> 9) % MOST_SIZE + 1);
            faultCount++;
        }
        return faultCount;
    }

    private static int next(int z) {
        return z * 1103515245 + 12345;
    }

    public int chance(int seed, int m, int worth, int part) {
        if (!yard.hasLog()) {
            return STATE;
        }
        if (!within(m, 1, MOST_SEEDS) || worth < 0 || !within(part, 0, 1)) {
            return BAD;
        }
        int hits = 0;
        for (int i = 0; i < m; i++) {
            if (worthInThought(drawFaults(seed + i, DRAWN_FAULTS)) >= worth) {
                hits++;
            }
        }
        int common = commonDivisor(hits, m);
        return part == 0 ? hits / common : m / common;
    }

    private static int commonDivisor(int hits, int m) {
        for (int d = m; d > 1; d--) {
            if (hits % d == 0 && m % d == 0) {
                return d;
            }
        }
        return 1;
    }

    public int tells(int sheet, int what) {
        if (!yard.hasLog()) {
            return STATE;
        }
        if (!isSheet(sheet) || !within(what, 0, 2)) {
            return BAD;
        }
        if (sheetSort[sheet] == NONE) {
            return MISSING;
        }
        if (sheetSize[sheet] > SIDE) {
            return BAD;
        }
        switch (what) {
            case 0: return firstOtherwise(sheet, openedAsItLies());
            case 1: return turnsTold(sheet);
            default: return kerfsTold(sheet);
        }
    }

    private int firstOtherwise(int sheet, Saw saw) {
        int told = sheetSize[sheet];
        int both = Math.min(told, saw.boardCount);
        for (int k = 0; k < both; k++) {
            if (sheetItems[SHEET_ITEMS * sheet + k] != saw.gradeAt(k)) {
                return k;
            }
        }
        return told == saw.boardCount ? NONE : both;
    }

    private int turnsTold(int sheet) {
        int turns = 0;
        for (int t = 0; t < TURNS; t++) {
            openByTurn(t);
            if (firstOtherwise(sheet, thought) == NONE) {
                turns |= 1 << t;
            }
        }
        return turns;
    }

    private int kerfsTold(int sheet) {
        int kerfs = 0;
        thought.lay(yard, yard.turn, yard.faults, yard.faultCount);
        for (int kerf = 0; kerf <= MOST_KERF; kerf++) {
            thought.open(kerf);
            if (firstOtherwise(sheet, thought) == NONE) {
                kerfs |= 1 << kerf;
            }
        }
        return kerfs;
    }

    // ---- the image

    public int image() {
        kept.becomeAs(yard);
        hasImage = true;
        return kept.faultCount;
    }

    public int back() {
        if (!hasImage) {
            return STATE;
        }
        yard.becomeAs(kept);
        lies.laid = false;
        return yard.faultCount;
    }

    public int count(int what) {
        switch (what) {
            case 0: return yard.faultCount;
            case 1: return yard.boardCount;
            case 2: return yard.orderCount;
            case 3: return yard.length;
            case 4: return yard.turn;
            case 5: return tapeSize;
            case 6: return yard.hasLog() ? woodWithFault() : 0;
            default: return BAD;
        }
    }

    private int woodWithFault() {
        Saw saw = asItLies();
        int cells = 0;
        for (int slice = 0; slice < yard.length; slice++) {
            for (int cell = 0; cell < CELLS; cell++) {
                int x = cell % SIDE;
                int y = cell / SIDE;
                if (saw.hurtOf(x, y, slice) > 0 && yard.isWood(x, y, slice)) {
                    cells++;
                }
            }
        }
        return cells;
    }

    // ---- the host

    public int sheet(int sheet, int sort, int n) {
        if (!isSheet(sheet) || !within(sort, NONE, INTS)) {
            return BAD;
        }
        if (sort == NONE) {
            sheetSort[sheet] = NONE;
            return 1;
        }
        if (n > SHEET_ITEMS) {
            return BAD;
        }
        if (n < 0) {
            return BELOW_ZERO;
        }
        sheetSort[sheet] = sort;
        sheetSize[sheet] = n;
        for (int i = 0; i < n; i++) {
            sheetItems[SHEET_ITEMS * sheet + i] = 0;
        }
        return 1;
    }

    private static boolean isSheet(int sheet) {
        return within(sheet, 0, SHEETS - 1);
    }

    public int put(int sheet, int i, long v) {
        if (!isSheet(sheet)) {
            return BAD;
        }
        if (sheetSort[sheet] == NONE) {
            return MISSING;
        }
        if (!within(i, 0, sheetSize[sheet] - 1)) {
            return OUTSIDE;
        }
        sheetItems[SHEET_ITEMS * sheet + i] = sheetSort[sheet] == LONGS ? v : (int) v;
        return 1;
    }

    public int copy(int sheet, int i, int other, int j, int n) {
        if (!isSheet(sheet) || !isSheet(other)) {
            return BAD;
        }
        if (sheetSort[sheet] == NONE || sheetSort[other] == NONE) {
            return MISSING;
        }
        if (sheetSort[sheet] != sheetSort[other]) {
            return UNLIKE;
        }
        if (!hasItems(sheet, i, n) || !hasItems(other, j, n)) {
            return OUTSIDE;
        }
        System.arraycopy(sheetItems, SHEET_ITEMS * sheet + i, sheetItems, SHEET_ITEMS * other + j, n);
        return n;
    }

    private boolean hasItems(int sheet, int i, int n) {
        return within(n, 0, sheetSize[sheet]) && within(i, 0, sheetSize[sheet] - n);
    }

    // ---- the kinds of faults

    /** A fault never changes, so that the yard, its image and thoughts can hold the same one. */
    private abstract static class Fault {
        final int angle;
        final int slice;
        final int size;

        Fault(int angle, int slice, int size) {
            this.angle = angle;
            this.slice = slice;
            this.size = size;
        }

        abstract int kind();

        abstract boolean isIn(int u, int v);

        /** Slices from its own on, of a log so long; it may last beyond that. */
        abstract int lasts(int length);

        abstract int hurts();

        int along(int u, int v) {
            return ANGLE_U[angle] * u + ANGLE_V[angle] * v;
        }

        int across(int u, int v) {
            return Math.abs(ANGLE_U[angle] * v - ANGLE_V[angle] * u);
        }

        int slicesOf(int length) {
            return Math.max(0, Math.min(lasts(length), length - slice));
        }

        boolean isInSlice(int i, int length) {
            return i >= slice && i < slice + slicesOf(length);
        }

        int cellsOfSlice() {
            int cells = 0;
            for (int cell = 0; cell < CELLS; cell++) {
                if (isIn(fromMiddle(cell % SIDE), fromMiddle(cell / SIDE))) {
                    cells++;
                }
            }
            return cells;
        }
    }

    private static class Knot extends Fault {
        Knot(int angle, int slice, int size) {
            super(angle, slice, size);
        }

        int kind() {
            return 0;
        }

        int wide() {
            return size;
        }

        boolean isIn(int u, int v) {
            return along(u, v) > 0 && across(u, v) <= wide();
        }

        int lasts(int length) {
            return size;
        }

        int hurts() {
            return 1;
        }
    }

    private static class Loose extends Knot {
        Loose(int angle, int slice, int size) {
            super(angle, slice, size);
        }

        int kind() {
            return 1;
        }

        int wide() {
            return super.wide() + 2;
        }

        int hurts() {
            return super.hurts() + 1;
        }
    }

    private static final class Spike extends Loose {
        Spike(int angle, int slice, int size) {
            super(angle, slice, size);
        }

        int kind() {
            return 2;
        }

        int lasts(int length) {
            return 2 * super.lasts(length);
        }
    }

    private static class Shake extends Fault {
        Shake(int angle, int slice, int size) {
            super(angle, slice, size);
        }

        int kind() {
            return 3;
        }

        boolean isIn(int u, int v) {
            return across(u, v) <= 1;
        }

        int lasts(int length) {
            return size + 2;
        }

        int hurts() {
            return 3;
        }
    }

    private static final class Ring extends Shake {
        Ring(int angle, int slice, int size) {
            super(angle, slice, size);
        }

        int kind() {
            return 4;
        }

        boolean isIn(int u, int v) {
            int square = u * u + v * v;
            int inner = 2 * size - 1;
            int outer = 2 * size + 1;
            return square >= inner * inner && square <= outer * outer;
        }

        int hurts() {
            return super.hurts() + 1;
        }
    }

    private static class Rot extends Fault {
        Rot(int angle, int slice, int size) {
            super(angle, slice, size);
        }

        int kind() {
            return 5;
        }

        boolean isIn(int u, int v) {
            return u * u + v * v <= 4 * size * size;
        }

        int lasts(int length) {
            return length - slice;
        }

        int hurts() {
            return WORST_HURT;
        }
    }

    private static final class Stain extends Rot {
        Stain(int angle, int slice, int size) {
            super(angle, slice, size);
        }

        int kind() {
            return 6;
        }

        boolean isIn(int u, int v) {
            return super.isIn(u, v) && along(u, v) > 0;
        }

        int hurts() {
            return 1;
        }
    }

    /** All that an image keeps. Boards and orders are rows of thickness, columns, slices, grade. */
    private static final class Yard {
        int radius = 0;
        int taper = 0;
        int length = 0;
        int turn = 0;
        final Fault[] faults = new Fault[MOST_FAULTS];
        int faultCount = 0;
        final int[] rules = new int[RULES];
        final int[] boards = new int[PARTS * MOST_BOARDS];
        int boardCount = 0;
        final int[] orders = new int[PARTS * MOST_ORDERS];
        int orderCount = 0;

        Yard() {
            System.arraycopy(RULE_FIRST, 0, rules, 0, RULES);
        }

        boolean hasLog() {
            return length > 0;
        }

        /** Lays another log, or none (length 0). */
        void lay(int radius, int taper, int length) {
            this.radius = radius;
            this.taper = taper;
            this.length = length;
            turn = 0;
            for (int i = 0; i < MOST_FAULTS; i++) {
                faults[i] = null;
            }
            faultCount = 0;
        }

        boolean isWood(int x, int y, int slice) {
            int u = fromMiddle(x);
            int v = fromMiddle(y);
            int r = Math.max(1, radius - slice * taper / 4);
            return u * u + v * v <= 4 * r * r;
        }

        Fault faultOf(int number) {
            return within(number, 0, faultCount - 1) ? faults[number] : null;
        }

        void addFault(Fault one) {
            if (faultCount < MOST_FAULTS) {
                faults[faultCount] = one;
                faultCount++;
            }
        }

        void dropFault(int number) {
            for (int i = Math.max(0, number); i + 1 < faultCount; i++) {
                faults[i] = faults[i + 1];
            }
            if (faultCount > 0) {
                faultCount--;
                faults[faultCount] = null;
            }
        }

        int woodIn(Fault one) {
            int end = one.slice + one.slicesOf(length);
            int cells = 0;
            for (int slice = one.slice; slice < end; slice++) {
                for (int cell = 0; cell < CELLS; cell++) {
                    int x = cell % SIDE;
                    int y = cell / SIDE;
                    if (isWood(x, y, slice) && one.isIn(fromMiddle(x), fromMiddle(y))) {
                        cells++;
                    }
                }
            }
            return cells;
        }

        /** x, y are the log's own here. */
        int leastFaultIn(int x, int y, int slice) {
            for (int i = 0; i < faultCount; i++) {
                Fault one = faultOf(i);
                if (one != null && one.isInSlice(slice, length) && one.isIn(fromMiddle(x), fromMiddle(y))) {
                    return i;
                }
            }
            return NONE;
        }

        void addBoard(int thickness, int columns, int slices, int grade) {
            if (boardCount < MOST_BOARDS) {
                fillRow(boards, PARTS * boardCount, thickness, columns, slices, grade);
                boardCount++;
            }
        }

        void addOrder(int thickness, int columns, int slices, int grade) {
            if (orderCount < MOST_ORDERS) {
                fillRow(orders, PARTS * orderCount, thickness, columns, slices, grade);
                orderCount++;
            }
        }

        private static void fillRow(int[] rows, int at, int thickness, int columns, int slices, int grade) {
            if (at >= 0 && at + 3 < rows.length) {
                rows[at] = thickness;
                rows[at + 1] = columns;
                rows[at + 2] = slices;
                rows[at + 3] = grade;
            }
        }

        int boardsThatMeet(int order) {
            int bits = 0;
            for (int board = 0; board < boardCount; board++) {
                if (meets(PARTS * board, PARTS * order)) {
                    bits |= 1 << board;
                }
            }
            return bits;
        }

        private boolean meets(int b, int o) {
            return boards[b] == orders[o] && boards[b + 1] >= orders[o + 1]
                    && boards[b + 2] >= orders[o + 2] && boards[b + 3] <= orders[o + 3];
        }

        void keepBoards(int bits) {
            boardCount = keepRows(boards, boardCount, bits);
        }

        void keepOrders(int bits) {
            orderCount = keepRows(orders, orderCount, bits);
        }

        private static int keepRows(int[] rows, int rowCount, int bits) {
            int stay = 0;
            for (int row = 0; row < rowCount; row++) {
                if (has(bits, row)) {
                    System.arraycopy(rows, PARTS * row, rows, PARTS * stay, PARTS);
                    stay++;
                }
            }
            return stay;
        }

        void becomeAs(Yard other) {
            radius = other.radius;
            taper = other.taper;
            length = other.length;
            turn = other.turn;
            faultCount = other.faultCount;
            boardCount = other.boardCount;
            orderCount = other.orderCount;
            for (int i = 0; i < MOST_FAULTS; i++) {
                faults[i] = other.faults[i];
            }
            System.arraycopy(other.rules, 0, rules, 0, RULES);
            System.arraycopy(other.boards, 0, boards, 0, PARTS * MOST_BOARDS);
            System.arraycopy(other.orders, 0, orders, 0, PARTS * MOST_ORDERS);
        }
    }

    /** The best piece of a board; there is none if it is worth nothing. */
    private static final class Piece {
        int a = 0;
        int b = 0;
        int s = 0;
        int t = 0;
        int grade = 0;
        int upper = 0;
        int lower = 0;
        int area = 0;
        int worth = 0;
    }

    /** What a log gives as it lies by some turn, with some faults: the hurt of its cells, its boards, its opening. */
    private static final class Saw {
        private static final int SUM_WIDE = SIDE + 1, SUM_FACE = SUM_WIDE * (MOST_SLICES + 1);

        boolean laid = false;
        boolean opened = false;
        int boardCount = 0;

        private int length = 0;
        private int topPrice = 0;
        private final int[] rules = new int[RULES];
        private final int[] firstWood = new int[MOST_SLICES * SIDE];
        private final int[] hurt = new int[MOST_SLICES * CELLS];

        // Of each row, slices and columns ahead of a place added up: the hurt of any piece's face is four look-ups.
        private final int[] hurtSums = new int[SIDE * SUM_FACE];
        private final int[] worstSums = new int[SIDE * SUM_FACE];

        private final int[] firstColumn = new int[MOST_SLICES];
        private final Piece found = new Piece();
        private final int[] worthFrom = new int[SIDE + 1];
        private final int[] thicknessFrom = new int[SIDE];
        private final int[] gradeFrom = new int[SIDE];
        private final int[] rows = new int[SIDE];

        void lay(Yard yard, int turn, Fault[] faults, int faultCount) {
            length = Math.min(yard.length, MOST_SLICES);
            System.arraycopy(yard.rules, 0, rules, 0, RULES);
            topPrice = 0;
            for (int grade = 0; grade < GRADES; grade++) {
                topPrice = Math.max(topPrice, rules[PRICES + grade]);
            }
            findFirstWood(yard);
            Arrays.fill(hurt, 0);
            for (int i = 0; i < faultCount && i < faults.length; i++) {
                Fault one = faults[i];
                if (one != null) {
                    mark(one, turn);
                }
            }
            addUp();
            laid = true;
            opened = false;
        }

        /** Wood lies evenly about the middle: it ends in a row as far from the right as it begins from the left. */
        private void findFirstWood(Yard yard) {
            for (int slice = 0; slice < length; slice++) {
                for (int y = 0; y < SIDE; y++) {
                    int x = 0;
                    while (x < SIDE / 2 && !yard.isWood(x, y, slice)) {
                        x++;
                    }
                    firstWood[slice * SIDE + y] = x;
                }
            }
        }

        private void mark(Fault one, int turn) {
            int end = Math.min(length, one.slice + one.slicesOf(length));
            int hurts = one.hurts();
            for (int cell = 0; cell < CELLS; cell++) {
                int x = cell % SIDE;
                int y = cell / SIDE;
                if (one.isIn(fromMiddle(ownX(turn, x, y)), fromMiddle(ownY(turn, x, y)))) {
                    for (int slice = one.slice; slice < end; slice++) {
                        int at = slice * CELLS + cell;
                        hurt[at] = Math.max(hurt[at], hurts);
                    }
                }
            }
        }

        private void addUp() {
            for (int y = 0; y < SIDE; y++) {
                for (int slice = 0; slice < length; slice++) {
                    int hurtSum = 0;
                    int worstSum = 0;
                    for (int x = 0; x < SIDE; x++) {
                        int h = hurt[slice * CELLS + y * SIDE + x];
                        hurtSum += h;
                        worstSum += h == WORST_HURT ? 1 : 0;
                        int at = y * SUM_FACE + (slice + 1) * SUM_WIDE + x + 1;
                        hurtSums[at] = hurtSums[at - SUM_WIDE] + hurtSum;
                        worstSums[at] = worstSums[at - SUM_WIDE] + worstSum;
                    }
                }
            }
        }

        private static int sumOf(int[] sums, int y, int a, int b, int s, int t) {
            int ahead = y * SUM_FACE + s * SUM_WIDE;
            int all = y * SUM_FACE + (t + 1) * SUM_WIDE;
            return sums[all + b + 1] - sums[all + a] - sums[ahead + b + 1] + sums[ahead + a];
        }

        int hurtOf(int x, int y, int slice) {
            return hurt[slice * CELLS + y * SIDE + x];
        }

        /** The columns at a slice go from this one to as far from the right; beyond the middle there are none. */
        private int firstColumnAt(int y, int n, int slice) {
            return Math.max(firstWood[slice * SIDE + y], firstWood[slice * SIDE + y + n - 1]);
        }

        /** A log grows no wider: what is wood at the last slice of a piece is so at those ahead. */
        boolean isAllWood(int y, int n, int a, int b, int t) {
            int first = firstColumnAt(y, n, t);
            return a >= first && b <= SIDE - 1 - first;
        }

        int gradeOf(int y, int n, int a, int b, int s, int t) {
            int low = y + n - 1;
            int area = (b - a + 1) * (t - s + 1);
            int upper = sumOf(hurtSums, y, a, b, s, t);
            int lower = sumOf(hurtSums, low, a, b, s, t);
            int worse = Math.max(upper, lower);
            int better = Math.min(upper, lower);
            if (worse == 0) {
                return 0;
            }
            if (better == 0 && 8 * worse <= area) {
                return 1;
            }
            if (2 * worse <= area && sumOf(worstSums, y, a, b, s, t) == 0
                    && sumOf(worstSums, low, a, b, s, t) == 0) {
                return 2;
            }
            return better <= area ? 3 : GRADES;
        }

        /** Pieces are tried by s, t, a, b, so that the first of several as good stays. */
        Piece bestPiece(int y, int n) {
            found.worth = 0;
            found.area = 0;
            for (int t = 0; t < length; t++) {
                firstColumn[t] = firstColumnAt(y, n, t);
            }
            boolean save = rules[SAVE] == 1;
            for (int s = 0; s < length; s++) {
                for (int t = s; t < length; t++) {
                    boolean whole = s == 0 && t == length - 1;
                    if (!save && !whole) {
                        continue;
                    }
                    int first = firstColumn[t];
                    int last = SIDE - 1 - first;
                    boolean along = save && whole;
                    for (int a = first; a <= (along ? last : first); a++) {
                        for (int b = along ? a : last; b <= last; b++) {
                            tryPiece(y, n, a, b, s, t);
                        }
                    }
                }
            }
            return found;
        }

        private void tryPiece(int y, int n, int a, int b, int s, int t) {
            int area = (b - a + 1) * (t - s + 1);
            // A piece that is worth no more even at the best price is no larger than what is found: no look at its faces.
            if (a > b || area * n * topPrice <= found.worth) {
                return;
            }
            int grade = gradeOf(y, n, a, b, s, t);
            int worth = grade < GRADES ? area * n * rules[PRICES + grade] : 0;
            if (worth > found.worth || worth > 0 && worth == found.worth && area > found.area) {
                found.a = a;
                found.b = b;
                found.s = s;
                found.t = t;
                found.grade = grade;
                found.upper = sumOf(hurtSums, y, a, b, s, t);
                found.lower = sumOf(hurtSums, y + n - 1, a, b, s, t);
                found.area = area;
                found.worth = worth;
            }
        }

        /** From below: the best that rows y and on can give; of ways worth as much the thickest board's is the one. */
        int open(int kerf) {
            for (int y = SIDE - 1; y >= 0; y--) {
                worthFrom[y] = worthFrom[y + 1];
                thicknessFrom[y] = 0;
                for (int n = 1; n <= MOST_THICKNESS && y + n <= SIDE; n++) {
                    if (!has(rules[THICK], n)) {
                        continue;
                    }
                    Piece best = bestPiece(y, n);
                    int worth = best.worth + worthFrom[Math.min(SIDE, y + n + kerf)];
                    if (best.worth > 0 && worth >= worthFrom[y]) {
                        worthFrom[y] = worth;
                        thicknessFrom[y] = n;
                        gradeFrom[y] = best.grade;
                    }
                }
            }
            listRows(kerf);
            opened = true;
            return worthFrom[0];
        }

        private void listRows(int kerf) {
            boardCount = 0;
            int free = 0;
            for (int y = 0; y < SIDE; y++) {
                if (y >= free && thicknessFrom[y] > 0) {
                    rows[boardCount] = y;
                    boardCount++;
                    free = y + thicknessFrom[y] + kerf;
                }
            }
        }

        int rowAt(int k) {
            return within(k, 0, SIDE - 1) ? rows[k] : 0;
        }

        int thicknessAt(int k) {
            return thicknessFrom[rowAt(k)];
        }

        int gradeAt(int k) {
            return gradeFrom[rowAt(k)];
        }

        Piece pieceAt(int k) {
            return bestPiece(rowAt(k), thicknessAt(k));
        }
    }
}
