import java.util.ArrayList;
import java.util.Arrays;
import java.util.List;

/** The document once more, told as plainly and as slowly as its words go: OracleTest holds LogSawyer against it. */
final class PlainSawyer {
    static final int NONE = -1, BAD = -2, STATE = -3, FULL = -4;
    static final long NO = -4611686018427387904L;

    /** kind, angle, slice, size */
    private static final class State {
        int radius, taper, length, turn;
        List<int[]> faults = new ArrayList<>();
        int kerf = 1, save = 1, thick = 12;
        int[] prices = {9, 6, 3, 1};
        List<int[]> stack = new ArrayList<>();
        List<int[]> orders = new ArrayList<>();
        int[][][] hurts;

        State twin() {
            State s = new State();
            s.radius = radius;
            s.taper = taper;
            s.length = length;
            s.turn = turn;
            s.faults = new ArrayList<>(faults);
            s.kerf = kerf;
            s.save = save;
            s.thick = thick;
            s.prices = prices.clone();
            s.stack = new ArrayList<>(stack);
            s.orders = new ArrayList<>(orders);
            return s;
        }
    }

    /** A piece with what is told of it. */
    private record Piece(int a, int b, int s, int t, int area, int grade, int upper, int lower, long worth) { }

    private record Board(int y, int thickness, Piece best) { }

    private State now = new State();
    private State kept = null;
    private String tape = "";
    private final long[][] sheets = new long[4][];
    private final int[] sorts = new int[4];

    private boolean noLog() {
        return now.length == 0;
    }

    private static boolean out(int v, int least, int most) {
        return v < least || v > most;
    }

    // ---- log, faults

    private static boolean wood(State st, int x, int y, int slice) {
        int u = 2 * x - 11, v = 2 * y - 11;
        int r = st.radius - (slice * st.taper) / 4;
        if (r < 1) {
            r = 1;
        }
        return u * u + v * v <= (2 * r) * (2 * r);
    }

    private static int lasts(State st, int[] f) {
        switch (f[0]) {
            case 0: case 1: return f[3];
            case 2: return 2 * f[3];
            case 3: case 4: return f[3] + 2;
            default: return 99;
        }
    }

    private static int hurts(int[] f) {
        return new int[] {1, 2, 2, 3, 4, 9, 1}[f[0]];
    }

    private static boolean shape(int[] f, int x, int y) {
        int u = 2 * x - 11, v = 2 * y - 11;
        double turn = f[1] * Math.PI / 4;
        int p = (int) Math.signum(Math.round(Math.cos(turn) * 10));
        int q = (int) Math.signum(Math.round(Math.sin(turn) * 10));
        int along = p * u + q * v;
        int across = Math.abs(p * v - q * u);
        double far = Math.sqrt(u * u + v * v);
        switch (f[0]) {
            case 0: return along > 0 && across <= f[3];
            case 1: case 2: return along > 0 && across <= f[3] + 2;
            case 3: return across <= 1;
            case 4: return far > 2 * f[3] - 1 - 1e-9 && far < 2 * f[3] + 1 + 1e-9;
            case 5: return far < 2 * f[3] + 1e-9;
            default: return far < 2 * f[3] + 1e-9 && along > 0;
        }
    }

    private static boolean in(State st, int[] f, int x, int y, int slice) {
        return slice >= f[2] && slice < f[2] + lasts(st, f) && slice < st.length && shape(f, x, y);
    }

    private static int[] own(int turn, int x, int y) {
        int[] place = {x, y};
        for (int k = 0; k < turn; k++) {
            place = new int[] {place[1], 11 - place[0]};
        }
        return place;
    }

    private static int hurt(State st, int x, int y, int slice) {
        int[] o = own(st.turn, x, y);
        int most = 0;
        for (int[] f : st.faults) {
            if (in(st, f, o[0], o[1], slice)) {
                most = Math.max(most, hurts(f));
            }
        }
        return most;
    }

    int log(int radius, int taper, int length) {
        if (out(radius, 2, 6) || out(taper, 0, 4) || out(length, 1, 8)) {
            return BAD;
        }
        now.radius = radius;
        now.taper = taper;
        now.length = length;
        now.turn = 0;
        now.faults.clear();
        int n = 0;
        for (int i = 0; i < length; i++) {
            for (int x = 0; x < 12; x++) {
                for (int y = 0; y < 12; y++) {
                    n += wood(now, x, y, i) ? 1 : 0;
                }
            }
        }
        return n;
    }

    int feed(int n, int a, int b, int c, int d, int e) {
        int[] all = {a, b, c, d, e};
        if (out(n, 1, 5)) {
            return BAD;
        }
        for (int v : all) {
            if (out(v, 0, 255)) {
                return BAD;
            }
        }
        if (tape.length() + n > 40) {
            return FULL;
        }
        for (int i = 0; i < n; i++) {
            tape += (char) all[i];
        }
        return tape.length();
    }

    int text() {
        if (noLog()) {
            return STATE;
        }
        String t = tape;
        tape = "";
        List<int[]> items = new ArrayList<>();
        int at = 0;
        while (at < t.length()) {
            char c = t.charAt(at);
            if (c == 32 || c == 10) {
                at++;
                continue;
            }
            int kind = "klshrot".indexOf(c);
            if (kind < 0) {
                return -100 - at;
            }
            int[] item = {kind, 0, 0, 0};
            for (int part = 1; part <= 3; part++) {
                if (at + part >= t.length()) {
                    return -100 - t.length();
                }
                String allowed = part == 3 ? "1234" : "01234567";
                if (allowed.indexOf(t.charAt(at + part)) < 0) {
                    return -100 - (at + part);
                }
                item[part] = t.charAt(at + part) - 48;
            }
            items.add(item);
            at += 4;
        }
        if (items.isEmpty()) {
            return -100 - t.length();
        }
        if (items.size() + now.faults.size() > 8) {
            return FULL;
        }
        now.faults.addAll(items);
        return now.faults.size();
    }

    int fault(int kind, int angle, int slice, int size) {
        if (noLog()) {
            return STATE;
        }
        if (out(kind, 0, 6) || out(angle, 0, 7) || out(slice, 0, 7) || out(size, 1, 4)) {
            return BAD;
        }
        if (now.faults.size() == 8) {
            return FULL;
        }
        now.faults.add(new int[] {kind, angle, slice, size});
        return now.faults.size() - 1;
    }

    int heal(int fault) {
        if (out(fault, 0, now.faults.size() - 1)) {
            return BAD;
        }
        now.faults.remove(fault);
        return now.faults.size();
    }

    int told(int fault, int what) {
        if (out(fault, 0, now.faults.size() - 1) || out(what, 0, 6)) {
            return BAD;
        }
        int[] f = now.faults.get(fault);
        if (what < 4) {
            return f[what];
        }
        if (what == 6) {
            return hurts(f);
        }
        int cells = 0, slices = 0;
        for (int i = 0; i < now.length; i++) {
            slices += i >= f[2] && i < f[2] + lasts(now, f) ? 1 : 0;
            for (int x = 0; x < 12; x++) {
                for (int y = 0; y < 12; y++) {
                    cells += wood(now, x, y, i) && in(now, f, x, y, i) ? 1 : 0;
                }
            }
        }
        return what == 4 ? cells : slices;
    }

    int taken(int fault, int k) {
        if (out(fault, 0, now.faults.size() - 1) || out(k, 0, 6)) {
            return BAD;
        }
        int[] f = now.faults.get(fault);
        int[][] over = {{0}, {0, 1}, {0, 1, 2}, {3}, {3, 4}, {5}, {5, 6}};
        if (Arrays.stream(over[f[0]]).noneMatch(o -> o == k)) {
            return -13;
        }
        int cells = 0;
        for (int x = 0; x < 12; x++) {
            for (int y = 0; y < 12; y++) {
                cells += shape(f, x, y) ? 1 : 0;
            }
        }
        return cells;
    }

    int turn(int t) {
        if (noLog()) {
            return STATE;
        }
        if (out(t, 0, 3)) {
            return BAD;
        }
        int was = now.turn;
        now.turn = t;
        return was;
    }

    int rule(int what, int v) {
        int was;
        switch (what) {
            case 0:
                if (out(v, 0, 2)) {
                    return BAD;
                }
                was = now.kerf;
                now.kerf = v;
                return was;
            case 1:
                if (out(v, 0, 1)) {
                    return BAD;
                }
                was = now.save;
                now.save = v;
                return was;
            case 2: case 3: case 4: case 5:
                if (out(v, 0, 99)) {
                    return BAD;
                }
                was = now.prices[what - 2];
                now.prices[what - 2] = v;
                return was;
            case 6:
                if (out(v, 0, 30) || v % 2 == 1) {
                    return BAD;
                }
                was = now.thick;
                now.thick = v;
                return was;
            default:
                return BAD;
        }
    }

    int cell(int x, int y, int slice, int what) {
        if (noLog()) {
            return STATE;
        }
        if (out(x, 0, 11) || out(y, 0, 11) || out(slice, 0, now.length - 1) || out(what, 0, 2)) {
            return BAD;
        }
        if (what == 0) {
            return wood(now, x, y, slice) ? 1 : 0;
        }
        if (what == 1) {
            return hurt(now, x, y, slice);
        }
        int[] o = own(now.turn, x, y);
        for (int i = 0; i < now.faults.size(); i++) {
            if (in(now, now.faults.get(i), o[0], o[1], slice)) {
                return i;
            }
        }
        return NONE;
    }

    // ---- boards

    private static void findHurts(State st) {
        st.hurts = new int[8][12][12];
        for (int i = 0; i < st.length; i++) {
            for (int x = 0; x < 12; x++) {
                for (int y = 0; y < 12; y++) {
                    st.hurts[i][y][x] = hurt(st, x, y, i);
                }
            }
        }
    }

    private static int faceHurt(State st, int row, int a, int b, int s, int t) {
        int sum = 0;
        for (int i = s; i <= t; i++) {
            for (int x = a; x <= b; x++) {
                sum += st.hurts[i][row][x];
            }
        }
        return sum;
    }

    private static boolean faceRotten(State st, int row, int a, int b, int s, int t) {
        for (int i = s; i <= t; i++) {
            for (int x = a; x <= b; x++) {
                if (st.hurts[i][row][x] == 9) {
                    return true;
                }
            }
        }
        return false;
    }

    private static Piece piece(State st, int y, int n, int a, int b, int s, int t) {
        int low = y + n - 1;
        int area = (b - a + 1) * (t - s + 1);
        int upper = faceHurt(st, y, a, b, s, t);
        int lower = faceHurt(st, low, a, b, s, t);
        int worse = Math.max(upper, lower), better = Math.min(upper, lower);
        boolean rotten = faceRotten(st, y, a, b, s, t) || faceRotten(st, low, a, b, s, t);
        int grade = 4;
        if (better <= area) {
            grade = 3;
        }
        if (!rotten && 2 * worse <= area) {
            grade = 2;
        }
        if (better == 0 && 8 * worse <= area) {
            grade = 1;
        }
        if (worse == 0) {
            grade = 0;
        }
        long worth = grade == 4 ? 0 : (long) area * n * st.prices[grade];
        return new Piece(a, b, s, t, area, grade, upper, lower, worth);
    }

    private static boolean allWood(State st, int y, int n, int a, int b, int s, int t) {
        for (int i = s; i <= t; i++) {
            for (int x = a; x <= b; x++) {
                for (int row = y; row < y + n; row++) {
                    if (!wood(st, x, row, i)) {
                        return false;
                    }
                }
            }
        }
        return true;
    }

    /** First and last column at a slice, or null. */
    private static int[] columns(State st, int y, int n, int slice) {
        int[] ends = null;
        for (int x = 0; x < 12; x++) {
            if (allWood(st, y, n, x, x, slice, slice)) {
                if (ends == null) {
                    ends = new int[] {x, x};
                }
                ends[1] = x;
            }
        }
        return ends;
    }

    private static Piece best(State st, int y, int n) {
        findHurts(st);
        List<int[]> had = new ArrayList<>();
        int last = st.length - 1;
        int[] whole = columns(st, y, n, last);
        if (whole != null) {
            had.add(new int[] {whole[0], whole[1], 0, last});
            for (int a = whole[0]; st.save == 1 && a <= whole[1]; a++) {
                for (int b = a; b <= whole[1]; b++) {
                    had.add(new int[] {a, b, 0, last});
                }
            }
        }
        for (int t = 0; st.save == 1 && t <= last; t++) {
            int[] at = columns(st, y, n, t);
            for (int s = 0; at != null && s <= t; s++) {
                had.add(new int[] {at[0], at[1], s, t});
            }
        }
        Piece best = null;
        for (int[] h : had) {
            Piece one = piece(st, y, n, h[0], h[1], h[2], h[3]);
            if (one.worth > 0 && (best == null || comesAhead(one, best))) {
                best = one;
            }
        }
        return best;
    }

    private static boolean comesAhead(Piece one, Piece other) {
        if (one.worth != other.worth) {
            return one.worth > other.worth;
        }
        if (one.area != other.area) {
            return one.area > other.area;
        }
        int[] places = {one.s, one.t, one.a, one.b}, others = {other.s, other.t, other.a, other.b};
        return Arrays.compare(places, others) < 0;
    }

    private static List<Board> openingOf(State st) {
        Board[][] can = new Board[12][5];
        for (int y = 0; y < 12; y++) {
            for (int n = 1; n <= 4 && y + n <= 12; n++) {
                if ((st.thick & 1 << n) != 0) {
                    Piece best = best(st, y, n);
                    can[y][n] = best == null ? null : new Board(y, n, best);
                }
            }
        }
        List<List<Board>> found = new ArrayList<>();
        found.add(new ArrayList<>());
        tryAll(st, can, 0, 0, new ArrayList<>(), found);
        return found.get(0);
    }

    private static void tryAll(State st, Board[][] can, int y, long worth, List<Board> way, List<List<Board>> found) {
        if (y >= 12) {
            if (worth >= worthOf(found.get(0)) && better(way, found.get(0))) {
                found.set(0, new ArrayList<>(way));
            }
            return;
        }
        tryAll(st, can, y + 1, worth, way, found);
        for (int n = 1; n <= 4; n++) {
            if (can[y][n] != null) {
                way.add(can[y][n]);
                tryAll(st, can, y + n + st.kerf, worth + can[y][n].best.worth, way, found);
                way.remove(way.size() - 1);
            }
        }
    }

    private static boolean better(List<Board> one, List<Board> other) {
        if (worthOf(one) != worthOf(other)) {
            return worthOf(one) > worthOf(other);
        }
        for (int y = 0; y < 12; y++) {
            int here = thicknessAt(one, y), there = thicknessAt(other, y);
            if (here != there) {
                return here > there;
            }
        }
        return false;
    }

    private static int thicknessAt(List<Board> boards, int y) {
        for (Board b : boards) {
            if (b.y == y) {
                return b.thickness;
            }
        }
        return 0;
    }

    private static long worthOf(List<Board> boards) {
        long sum = 0;
        for (Board b : boards) {
            sum += b.best.worth;
        }
        return sum;
    }

    private static boolean noBoard(int y, int n) {
        return out(n, 1, 4) || y < 0 || y > 11 || y + n - 1 > 11;
    }

    int board(int y, int thickness, int what) {
        if (noLog()) {
            return STATE;
        }
        if (noBoard(y, thickness) || out(what, 0, 6)) {
            return BAD;
        }
        Piece p = best(now, y, thickness);
        return p == null ? NONE : new int[] {p.a, p.b, p.s, p.t, p.grade, p.upper, p.lower}[what];
    }

    int graded(int y, int thickness, int a, int b, int slices) {
        if (noLog()) {
            return STATE;
        }
        if (noBoard(y, thickness) || out(a, 0, 11) || out(b, 0, 11) || a > b || out(slices, 0, 63)) {
            return BAD;
        }
        int s = slices >> 3, t = slices & 7;
        if (s > t || t >= now.length) {
            return BAD;
        }
        findHurts(now);
        return allWood(now, y, thickness, a, b, s, t) ? piece(now, y, thickness, a, b, s, t).grade : NONE;
    }

    long worth(int y, int thickness) {
        if (noLog() || noBoard(y, thickness)) {
            return NO;
        }
        Piece p = best(now, y, thickness);
        return p == null ? 0 : p.worth;
    }

    int opening(int k, int what) {
        if (noLog()) {
            return STATE;
        }
        if (out(what, 0, 2)) {
            return BAD;
        }
        List<Board> boards = openingOf(now);
        if (k == -1) {
            return boards.size();
        }
        if (out(k, 0, boards.size() - 1)) {
            return -12;
        }
        Board b = boards.get(k);
        return new int[] {b.y, b.thickness, b.best.grade}[what];
    }

    private long worthTurned(int t) {
        State st = now.twin();
        st.turn = t;
        return worthOf(openingOf(st));
    }

    long best(int turn) {
        if (noLog() || out(turn, -1, 3)) {
            return NO;
        }
        return worthTurned(turn == -1 ? bestTurn() : turn);
    }

    int bestTurn() {
        if (noLog()) {
            return STATE;
        }
        int found = 3;
        for (int t = 3; t >= 0; t--) {
            if (worthTurned(t) >= worthTurned(found)) {
                found = t;
            }
        }
        return found;
    }

    // ---- the stack, orders

    int saw() {
        if (noLog()) {
            return STATE;
        }
        List<Board> boards = openingOf(now);
        if (boards.size() + now.stack.size() > 16) {
            return FULL;
        }
        for (Board b : boards) {
            now.stack.add(new int[] {b.thickness, b.best.b - b.best.a + 1, b.best.t - b.best.s + 1, b.best.grade});
        }
        now.length = 0;
        now.turn = 0;
        now.faults.clear();
        return boards.size();
    }

    int stack(int k, int what) {
        if (out(what, 0, 3)) {
            return BAD;
        }
        if (k == -1) {
            return now.stack.size();
        }
        return out(k, 0, now.stack.size() - 1) ? -12 : now.stack.get(k)[what];
    }

    int order(int thickness, int grade, int width, int length) {
        if (out(thickness, 1, 4) || out(grade, 0, 3) || out(width, 1, 12) || out(length, 1, 8)) {
            return BAD;
        }
        if (now.orders.size() == 6) {
            return FULL;
        }
        now.orders.add(new int[] {thickness, grade, width, length});
        return now.orders.size() - 1;
    }

    private boolean meets(int board, int order) {
        int[] b = now.stack.get(board), o = now.orders.get(order);
        return b[0] == o[0] && b[3] <= o[1] && b[1] >= o[2] && b[2] >= o[3];
    }

    /** Whether the orders from the i-th on can each have a board that is not used yet. */
    private boolean can(List<Integer> orders, int i, boolean[] used) {
        if (i == orders.size()) {
            return true;
        }
        for (int b = 0; b < now.stack.size(); b++) {
            if (!used[b] && meets(b, orders.get(i))) {
                used[b] = true;
                boolean rest = can(orders, i + 1, used);
                used[b] = false;
                if (rest) {
                    return true;
                }
            }
        }
        return false;
    }

    private List<Integer> metOnes() {
        List<Integer> met = new ArrayList<>();
        for (int o = 0; o < now.orders.size(); o++) {
            met.add(o);
            if (!can(met, 0, new boolean[16])) {
                met.remove(met.size() - 1);
            }
        }
        return met;
    }

    int met(int what) {
        if (out(what, 0, 1)) {
            return BAD;
        }
        int n = 0;
        if (what == 0) {
            for (int o : metOnes()) {
                n += 1 << o;
            }
            return n;
        }
        for (int b = 0; b < now.stack.size(); b++) {
            boolean any = false;
            for (int o = 0; o < now.orders.size(); o++) {
                any |= meets(b, o);
            }
            n += any ? 1 : 0;
        }
        return n;
    }

    int serve() {
        List<Integer> met = metOnes();
        boolean[] used = new boolean[16];
        for (int i = 0; i < met.size(); i++) {
            for (int b = 0; b < now.stack.size(); b++) {
                if (used[b] || !meets(b, met.get(i))) {
                    continue;
                }
                used[b] = true;
                if (can(met, i + 1, used)) {
                    break;
                }
                used[b] = false;
            }
        }
        List<int[]> boards = new ArrayList<>(), orders = new ArrayList<>();
        for (int b = 0; b < now.stack.size(); b++) {
            if (!used[b]) {
                boards.add(now.stack.get(b));
            }
        }
        for (int o = 0; o < now.orders.size(); o++) {
            if (!met.contains(o)) {
                orders.add(now.orders.get(o));
            }
        }
        now.stack = boards;
        now.orders = orders;
        return met.size();
    }

    // ---- in thought

    long without(int fault) {
        if (out(fault, 0, now.faults.size() - 1)) {
            return NO;
        }
        State st = now.twin();
        st.faults.remove(fault);
        return worthOf(openingOf(st));
    }

    long drawn(int seed, int n) {
        if (noLog() || out(n, 0, 8)) {
            return NO;
        }
        State st = now.twin();
        int[] z = {seed};
        for (int i = 0; i < n; i++) {
            int[] f = {draw(z, 7), draw(z, 8), draw(z, 8), draw(z, 4) + 1};
            if (st.faults.size() < 8) {
                st.faults.add(f);
            }
        }
        return worthOf(openingOf(st));
    }

    private static int draw(int[] z, int of) {
        long next = ((z[0] & 0xffffffffL) * 1103515245L + 12345L) & 0xffffffffL;
        z[0] = (int) next;
        return (int) ((next >> 9) % of);
    }

    int chance(int seed, int m, int worth, int part) {
        if (noLog()) {
            return STATE;
        }
        if (out(m, 1, 8) || worth < 0 || out(part, 0, 1)) {
            return BAD;
        }
        int hits = 0;
        for (int i = 0; i < m; i++) {
            hits += drawn(seed + i, 2) >= worth ? 1 : 0;
        }
        int below = m;
        for (int by = 8; by >= 2; by--) {
            while (hits % by == 0 && below % by == 0) {
                hits /= by;
                below /= by;
            }
        }
        return part == 0 ? hits : below;
    }

    private int firstOtherwise(long[] told, List<Board> boards) {
        for (int k = 0; k < 13; k++) {
            boolean toldOne = k < told.length, hasOne = k < boards.size();
            if (!toldOne && !hasOne) {
                return NONE;
            }
            if (toldOne != hasOne || told[k] != boards.get(k).best.grade) {
                return k;
            }
        }
        return NONE;
    }

    int tells(int sheet, int what) {
        if (noLog()) {
            return STATE;
        }
        if (out(sheet, 0, 3) || out(what, 0, 2)) {
            return BAD;
        }
        if (sheets[sheet] == null) {
            return -11;
        }
        if (sheets[sheet].length > 12) {
            return BAD;
        }
        if (what == 0) {
            return firstOtherwise(sheets[sheet], openingOf(now));
        }
        int bits = 0;
        for (int i = 0; i < (what == 1 ? 4 : 3); i++) {
            State st = now.twin();
            if (what == 1) {
                st.turn = i;
            } else {
                st.kerf = i;
            }
            bits |= firstOtherwise(sheets[sheet], openingOf(st)) == NONE ? 1 << i : 0;
        }
        return bits;
    }

    // ---- the image

    int image() {
        kept = now.twin();
        return now.faults.size();
    }

    int back() {
        if (kept == null) {
            return STATE;
        }
        now = kept.twin();
        return now.faults.size();
    }

    int count(int what) {
        switch (what) {
            case 0: return now.faults.size();
            case 1: return now.stack.size();
            case 2: return now.orders.size();
            case 3: return now.length;
            case 4: return now.turn;
            case 5: return tape.length();
            case 6: break;
            default: return BAD;
        }
        int n = 0;
        for (int i = 0; i < now.length; i++) {
            for (int x = 0; x < 12; x++) {
                for (int y = 0; y < 12; y++) {
                    n += wood(now, x, y, i) && cell(x, y, i, 2) != NONE ? 1 : 0;
                }
            }
        }
        return n;
    }

    // ---- the host

    int sheet(int sheet, int sort, int n) {
        if (out(sheet, 0, 3) || out(sort, -1, 1)) {
            return BAD;
        }
        if (sort == -1) {
            sheets[sheet] = null;
            return 1;
        }
        if (n > 40) {
            return BAD;
        }
        if (n < 0) {
            return -14;
        }
        sheets[sheet] = new long[n];
        sorts[sheet] = sort;
        return 1;
    }

    int put(int sheet, int i, long v) {
        if (out(sheet, 0, 3)) {
            return BAD;
        }
        if (sheets[sheet] == null) {
            return -11;
        }
        if (out(i, 0, sheets[sheet].length - 1)) {
            return -12;
        }
        sheets[sheet][i] = sorts[sheet] == 0 ? v : (int) v;
        return 1;
    }

    int copy(int sheet, int i, int other, int j, int n) {
        if (out(sheet, 0, 3) || out(other, 0, 3)) {
            return BAD;
        }
        if (sheets[sheet] == null || sheets[other] == null) {
            return -11;
        }
        if (sorts[sheet] != sorts[other]) {
            return -13;
        }
        long end = (long) i + n, otherEnd = (long) j + n;
        if (i < 0 || j < 0 || n < 0 || end > sheets[sheet].length || otherEnd > sheets[other].length) {
            return -12;
        }
        long[] were = Arrays.copyOfRange(sheets[sheet], i, i + n);
        for (int k = 0; k < n; k++) {
            sheets[other][j + k] = were[k];
        }
        return n;
    }
}
