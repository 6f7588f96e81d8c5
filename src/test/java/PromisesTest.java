/** Each promise of the document by itself: ordinary inputs, the edges that it names, wrong inputs. */
public final class PromisesTest {
    private static final int BAD = -2, STATE = -3, FULL = -4, LOW = Integer.MIN_VALUE, HIGH = Integer.MAX_VALUE;
    private static final long NO = -4611686018427387904L;
    private static final Due d = new Due();

    private static void due(String call, long got, long want) {
        d.due(call, got, want);
    }

    public static void main(String[] args) {
        newObject();
        log();
        feed();
        text();
        fault();
        heal();
        told();
        taken();
        turn();
        rule();
        cell();
        board();
        boardTies();
        graded();
        grades();
        worth();
        opening();
        openingTies();
        best();
        bestTurn();
        saw();
        stack();
        order();
        met();
        serve();
        without();
        drawn();
        chance();
        tells();
        imageAndBack();
        count();
        sheet();
        put();
        copy();
        d.end("PromisesTest");
    }

    private static LogSawyer with(int radius, int taper, int length) {
        LogSawyer x = new LogSawyer();
        x.log(radius, taper, length);
        return x;
    }

    private static int feedText(LogSawyer x, String s) {
        int size = x.count(5);
        for (int i = 0; i < s.length(); i++) {
            size = x.feed(1, s.charAt(i), 0, 0, 0, 0);
        }
        return size;
    }

    private static int read(LogSawyer x, String s) {
        feedText(x, s);
        return x.text();
    }

    private static void newObject() {
        d.part("promise 1");
        LogSawyer x = new LogSawyer();
        for (int what = 0; what <= 6; what++) {
            due("count " + what, x.count(what), 0);
        }
        due("bestTurn", x.bestTurn(), STATE);
        due("stack", x.stack(-1, 0), 0);
        due("met", x.met(0), 0);
        due("back", x.back(), STATE);
        for (int i = 0; i < 4; i++) {
            due("put in a missing sheet", x.put(i, 0, 1), -11);
        }
        int[] first = {1, 1, 9, 6, 3, 1, 12};
        for (int what = 0; what < 7; what++) {
            due("rule " + what, x.rule(what, 0), first[what]);
        }
        due("NONE", LogSawyer.NONE, -1);
        due("BAD", LogSawyer.BAD, -2);
        due("STATE", LogSawyer.STATE, -3);
        due("FULL", LogSawyer.FULL, -4);
        due("NO", LogSawyer.NO, NO);
    }

    private static void log() {
        d.part("promise 2");
        LogSawyer x = new LogSawyer();
        due("all of radius 2", x.log(2, 0, 1), 12);
        due("all of radius 6", x.log(6, 0, 8), 896);
        due("radius 6 till slice 3, then 5", x.log(6, 1, 5), 4 * 112 + 80);
        due("1 at least", x.log(2, 4, 8), 12 + 7 * 4);
        due("a quarter of 3 i is cut", x.log(6, 3, 4), 112 + 112 + 80 + 52);
        x.fault(0, 0, 0, 1);
        x.turn(2);
        int[][] wrong = {{1, 0, 1}, {7, 0, 1}, {2, -1, 1}, {2, 5, 1}, {2, 0, 0}, {2, 0, 9}, {LOW, 0, 1}, {6, HIGH, 1}, {6, 0, LOW}};
        for (int[] w : wrong) {
            due("log " + w[0] + ", " + w[1] + ", " + w[2], x.log(w[0], w[1], w[2]), BAD);
        }
        due("a refusal changes nothing", 10 * x.count(0) + x.count(4), 12);
        due("another", x.log(2, 0, 2), 24);
        due("the faults go", x.count(0), 0);
        due("the turn is 0", x.count(4), 0);
        due("its slices", x.count(3), 2);
    }

    private static void feed() {
        d.part("promise 3");
        LogSawyer x = new LogSawyer();
        due("n 0", x.feed(0, 0, 0, 0, 0, 0), BAD);
        due("n 6", x.feed(6, 0, 0, 0, 0, 0), BAD);
        for (int i = 0; i < 5; i++) {
            int[] a = new int[5];
            a[i] = 256;
            due("256 as byte " + i, x.feed(1, a[0], a[1], a[2], a[3], a[4]), BAD);
            a[i] = -1;
            due("-1 as byte " + i, x.feed(1, a[0], a[1], a[2], a[3], a[4]), BAD);
            a[i] = 255;
            due("255 as byte " + i, x.feed(1, a[0], a[1], a[2], a[3], a[4]), i + 1);
        }
        for (int n = 10; n <= 35; n += 5) {
            due("five more", x.feed(5, 1, 2, 3, 4, 5), n);
        }
        due("three more", x.feed(3, 1, 2, 3, 4, 5), 38);
        due("no room", x.feed(3, 1, 2, 3, 4, 5), FULL);
        due("BAD comes ahead of FULL", x.feed(3, 1, 2, 3, 4, 256), BAD);
        due("the last two", x.feed(2, 1, 2, 3, 4, 5), 40);
        due("no room for one", x.feed(1, 1, 2, 3, 4, 5), FULL);
        due("the tape", x.count(5), 40);
        x.log(2, 0, 1);
        due("in their order", new int[] {x.text(), x.count(5), feedText(x, "k0"), x.feed(2, '1', '4', 0, 0, 0), x.text()}[4], 1);
        due("size", x.told(0, 3), 4);
    }

    private static void text() {
        d.part("promise 4");
        LogSawyer x = new LogSawyer();
        feedText(x, "k012");
        due("no log", x.text(), STATE);
        due("the tape stays", x.count(5), 4);
        x.log(6, 0, 8);
        due("one", x.text(), 1);
        due("the tape is empty", x.count(5), 0);
        due("behind the other", read(x, " \nl123s234h341\n r452 o563t674 "), 7);
        String[] told = {"0012", "1123", "2234", "3341", "4452", "5563", "6674"};
        for (int f = 0; f < 7; f++) {
            for (int what = 0; what < 4; what++) {
                due("told " + f + ", " + what, x.told(f, what), told[f].charAt(what) - '0');
            }
        }
        due("FULL", read(x, "k011 k011"), FULL);
        due("none comes", x.count(0), 7);
        due("the tape is empty", x.count(5), 0);
        due("the fault ahead of FULL", read(x, "k011k011k0111"), -112);
        due("eight", read(x, "t774"), 8);
        String[] wrong = {"", " ", " \n ", "x012", "K012", "k", "k0", "k01", "k812", "k082", "k010", "k015", "k 12", "k0 2", "k01 ",
            "k012 k", "k012k01", "k012\t", "0", "\rk012", "k/12", "k01:", "k0 12", "k012,"};
        int[] places = {0, 1, 3, 0, 0, 1, 2, 3, 1, 2, 3, 3, 1, 2, 3, 6, 7, 4, 0, 0, 1, 3, 2, 4};
        x.log(6, 0, 8);
        for (int i = 0; i < wrong.length; i++) {
            due("text of '" + wrong[i] + "'", read(x, wrong[i]), -100 - places[i]);
            due("the tape is empty", x.count(5), 0);
        }
        due("no fault came", x.count(0), 0);
        due("to the brim", read(x, "k011 k011 k011 k011 k011 k011 k011 k011 "), 8);
    }

    private static void fault() {
        d.part("promise 5");
        LogSawyer x = new LogSawyer();
        due("STATE ahead of BAD", x.fault(9, 0, 0, 1), STATE);
        x.log(2, 0, 1);
        int[][] wrong = {{-1, 0, 0, 1}, {7, 0, 0, 1}, {0, -1, 0, 1}, {0, 8, 0, 1}, {0, 0, -1, 1}, {0, 0, 8, 1}, {0, 0, 0, 0},
            {0, 0, 0, 5}, {LOW, 0, 0, 1}, {0, HIGH, 0, 1}};
        for (int[] w : wrong) {
            due("wrong", x.fault(w[0], w[1], w[2], w[3]), BAD);
        }
        due("the first", x.fault(0, 0, 0, 1), 0);
        due("beyond the log", x.fault(6, 7, 7, 4), 1);
        for (int i = 2; i < 8; i++) {
            due("a number", x.fault(i - 1, 0, 0, 1), i);
        }
        due("BAD ahead of FULL", x.fault(7, 0, 0, 1), BAD);
        due("FULL", x.fault(0, 0, 0, 1), FULL);
        due("eight", x.count(0), 8);
    }

    private static void heal() {
        d.part("promise 6");
        LogSawyer x = with(6, 0, 8);
        read(x, "k011 l011 s011");
        due("-1", x.heal(-1), BAD);
        due("3", x.heal(3), BAD);
        due("the middle one", x.heal(1), 2);
        due("that behind it is 1 less", x.told(1, 0), 2);
        due("that ahead stays", x.told(0, 0), 0);
        due("2 now", x.heal(2), BAD);
        due("1", x.heal(1), 1);
        due("0", x.heal(0), 0);
        due("none is left", x.heal(0), BAD);
        due("no hurt is left", x.count(6), 0);
    }

    private static void told() {
        d.part("promise 7");
        LogSawyer x = with(6, 0, 8);
        // angle 0: six columns; a knot of size 2 is two rows wide (v -1, 1), a loose one four (v -3 .. 3)
        read(x, "k012 l012 s012 h063 r071 o052 t052");
        int[] wood = {12 * 2, 24 * 2, 24 * 4, 24 * 2, 4, 12 * 3, 6 * 3};
        int[] slices = {2, 2, 4, 2, 1, 3, 3};
        int[] hurts = {1, 2, 2, 3, 4, 9, 1};
        for (int f = 0; f < 7; f++) {
            due("kind " + f, x.told(f, 0), f);
            due("wood " + f, x.told(f, 4), wood[f]);
            due("slices " + f, x.told(f, 5), slices[f]);
            due("hurts " + f, x.told(f, 6), hurts[f]);
            due("what 7", x.told(f, 7), BAD);
            due("what -1", x.told(f, -1), BAD);
        }
        due("no such fault", x.told(7, 0), BAD);
        due("no such fault", x.told(-1, 0), BAD);
        x.log(2, 0, 2);
        read(x, "o323 s210");
        read(x, "o323 s214");
        due("angle", x.told(0, 1), 3);
        due("slice", x.told(0, 2), 2);
        due("size", x.told(0, 3), 3);
        due("beyond the log it lasts nowhere", x.told(0, 5), 0);
        due("beyond the log it is in no wood", x.told(0, 4), 0);
        due("no further than the log", x.told(1, 5), 1);
        // radius 2: u, v of -3 .. 3 but the corners; v above 0 there
        due("wood alone counts", x.told(1, 4), 6);
    }

    private static void taken() {
        d.part("promise 8");
        LogSawyer x = with(2, 0, 1);
        read(x, "k002 l002 s002 h003 r001 o002 t002");
        int[] cells = {12, 24, 24, 24, 4, 12, 6};
        boolean[][] under = {{true}, {true, true}, {true, true, true}, {false, false, false, true}, {false, false, false, true, true},
            {false, false, false, false, false, true}, {false, false, false, false, false, true, true}};
        for (int f = 0; f < 7; f++) {
            for (int k = 0; k < 7; k++) {
                due("taken " + f + ", " + k, x.taken(f, k), k < under[f].length && under[f][k] ? cells[f] : -13);
            }
            due("kind 7", x.taken(f, 7), BAD);
            due("kind -1", x.taken(f, -1), BAD);
        }
        due("no such fault", x.taken(7, 0), BAD);
        due("no such fault", x.taken(-1, 0), BAD);
        x.log(2, 0, 1);
        // the diagonals: angle 1 to the right and below, u + v above 0 and v - u at most 2 either way
        read(x, "k102 k302 k502 k702 h101 r104");
        for (int f = 0; f < 4; f++) {
            due("slanted knot", x.taken(f, 0), 6 + 5 + 5);
        }
        due("slanted shake", x.taken(4, 3), 12);
        // 49 .. 81: (1, 7), (1, 9) no: 82; (3, 7), (5, 5), (5, 7) and (7, 1) ..
        due("ring", x.taken(5, 4), 4 * (2 + 2 + 1 + 2));
    }

    private static void turn() {
        d.part("promise 9");
        LogSawyer x = new LogSawyer();
        due("STATE ahead of BAD", x.turn(4), STATE);
        x.log(6, 0, 1);
        due("was 0", x.turn(3), 0);
        due("was 3", x.turn(1), 3);
        due("4", x.turn(4), BAD);
        due("-1", x.turn(-1), BAD);
        due("still 1", x.turn(1), 1);
        // a knot to the right; by each turn it points to another side
        x.fault(0, 0, 0, 1);
        int[][] arms = {{11, 5}, {5, 11}, {0, 5}, {5, 0}};
        for (int t = 0; t < 4; t++) {
            x.turn(t);
            for (int arm = 0; arm < 4; arm++) {
                due("arm " + arm + " by turn " + t, x.cell(arms[arm][0], arms[arm][1], 0, 1), arm == t ? 1 : 0);
            }
        }
        // slanted to the right and below: u, v above 0 are x, y above 5
        x.log(6, 0, 1);
        x.fault(0, 1, 0, 1);
        int[][] corners = {{8, 8}, {3, 8}, {3, 3}, {8, 3}};
        for (int t = 0; t < 4; t++) {
            x.turn(t);
            for (int corner = 0; corner < 4; corner++) {
                due("corner " + corner + " by turn " + t, x.cell(corners[corner][0], corners[corner][1], 0, 1), corner == t ? 1 : 0);
            }
        }
    }

    private static void rule() {
        d.part("promise 10");
        LogSawyer x = new LogSawyer();
        int[] most = {2, 1, 99, 99, 99, 99, 30};
        int[] was = {1, 1, 9, 6, 3, 1, 12};
        for (int what = 0; what < 7; what++) {
            due("above", x.rule(what, most[what] + 1), BAD);
            due("below", x.rule(what, -1), BAD);
            due("the most", x.rule(what, most[what]), was[what]);
            due("the least", x.rule(what, 0), most[what]);
            due("was 0", x.rule(what, was[what]), 0);
        }
        due("odd", x.rule(6, 1), BAD);
        due("odd", x.rule(6, 29), BAD);
        due("even, above", x.rule(6, 32), BAD);
        due("what 7", x.rule(7, 0), BAD);
        due("what -1", x.rule(-1, 0), BAD);
        due("nothing was changed", x.rule(6, 12), 12);
    }

    private static void cell() {
        d.part("promise 11");
        LogSawyer x = new LogSawyer();
        due("STATE ahead of BAD", x.cell(12, 0, 0, 0), STATE);
        x.log(2, 4, 3);
        int[][] wrong = {{-1, 0, 0, 0}, {12, 0, 0, 0}, {0, -1, 0, 0}, {0, 12, 0, 0}, {0, 0, -1, 0}, {0, 0, 3, 0}, {0, 0, 0, -1},
            {0, 0, 0, 3}, {LOW, HIGH, 0, 0}};
        for (int[] w : wrong) {
            due("wrong", x.cell(w[0], w[1], w[2], w[3]), BAD);
        }
        due("wood", x.cell(4, 5, 0, 0), 1);
        due("no corner", x.cell(4, 4, 0, 0), 0);
        due("the log tapers", x.cell(4, 5, 1, 0), 0);
        due("1 at least", x.cell(5, 5, 2, 0), 1);
        due("no hurt", x.cell(5, 5, 0, 1), 0);
        due("no fault", x.cell(5, 5, 0, 2), -1);
        read(x, "k001 o011 s001 t001");
        due("the greatest, not the sum", x.cell(6, 5, 0, 1), 2);
        due("the least fault", x.cell(6, 5, 0, 2), 0);
        due("from its slice on", x.cell(6, 5, 1, 1), 9);
        due("the knot has ended", x.cell(6, 5, 1, 2), 1);
        due("hurt that is no wood", x.cell(11, 5, 0, 1), 2);
        due("rot to the end", x.cell(5, 6, 2, 1), 9);
        due("stain alone, to the left", x.cell(5, 5, 0, 2), -1);
        x.turn(2);
        due("as it lies", x.cell(0, 5, 0, 2), 0);
        due("as it lies", x.cell(11, 5, 0, 2), -1);
    }

    private static void board() {
        d.part("promise 12");
        LogSawyer x = new LogSawyer();
        due("STATE ahead of BAD", x.board(12, 0, 0), STATE);
        x.log(6, 0, 4);
        int[][] wrong = {{-1, 1, 0}, {12, 1, 0}, {9, 4, 0}, {0, 0, 0}, {0, 5, 0}, {0, 1, -1}, {0, 1, 7}, {HIGH, 2, 0}, {LOW, 1, 0}};
        for (int[] w : wrong) {
            due("wrong", x.board(w[0], w[1], w[2]), BAD);
        }
        dueBoard(x, 5, 2, 0, 11, 0, 3, 0, 0, 0);
        dueBoard(x, 0, 4, 4, 7, 0, 3, 0, 0, 0);
        dueBoard(x, 8, 4, 4, 7, 0, 3, 0, 0, 0);
        dueBoard(x, 5, 1, 0, 11, 0, 3, 0, 0, 0);
        // a shake down the middle of slices 2, 3: of the whole 6 and 6, AREA 48, which is grade 2; half the length is grade 0
        x.fault(3, 2, 2, 1);
        x.rule(2, 9);
        x.rule(4, 8);
        dueBoard(x, 5, 2, 0, 11, 0, 3, 2, 12, 12);
        x.rule(4, 3);
        // cut across 24 by 9, cut along 5 .. by 4: 20 by 9, the whole 48 by 3
        dueBoard(x, 5, 2, 0, 11, 0, 1, 0, 0, 0);
        x.rule(1, 0);
        dueBoard(x, 5, 2, 0, 11, 0, 3, 2, 12, 12);
        x.rule(4, 0);
        due("none is worth anything", x.board(5, 2, 4), -1);
        due("what is tested for none, too", x.board(5, 2, 7), BAD);
        // tapers out of the row: no whole one, but pieces cut across are
        x.log(6, 4, 4);
        due("no columns at the last", x.board(0, 1, 0), -1);
        x.rule(1, 1);
        dueBoard(x, 0, 1, 4, 7, 0, 0, 0, 0, 0);
        // between a shake at the butt and a rot at the top one slice is clean
        x.log(6, 0, 5);
        x.fault(5, 0, 4, 4);
        x.fault(3, 0, 0, 1);
        dueBoard(x, 5, 2, 0, 11, 3, 3, 0, 0, 0);
    }

    private static void dueBoard(LogSawyer x, int y, int n, int... want) {
        for (int what = 0; what < 7; what++) {
            due("board " + y + ", " + n + ", " + what, x.board(y, n, what), want[what]);
        }
    }

    private static void boardTies() {
        d.part("promise 12, ties");
        // grade 0 alone is worth anything; both faces are shaken in slices 2 .. 4 of 7: the first by s
        LogSawyer x = with(6, 0, 7);
        x.rule(3, 0);
        x.rule(4, 0);
        x.rule(5, 0);
        x.fault(3, 0, 2, 1);
        dueBoard(x, 5, 2, 0, 11, 0, 1, 0, 0, 0);
        // a shake down the middle all along: left of it and right of it are as wide
        x.log(6, 0, 8);
        x.fault(3, 2, 0, 4);
        x.fault(3, 2, 4, 4);
        dueBoard(x, 5, 2, 0, 4, 0, 7, 0, 0, 0);
        // of as much worth the larger: 24 cells by 2 are as much as 48 by 1
        x.log(6, 0, 4);
        x.fault(3, 2, 2, 1);
        x.rule(2, 2);
        x.rule(4, 1);
        dueBoard(x, 5, 2, 0, 11, 0, 3, 2, 12, 12);
    }

    private static void graded() {
        d.part("promise 13");
        LogSawyer x = new LogSawyer();
        due("STATE ahead of BAD", x.graded(0, 1, 1, 0, 0), STATE);
        x.log(6, 4, 4);
        int[][] wrong = {{-1, 1, 5, 6, 0}, {9, 4, 5, 6, 0}, {0, 0, 5, 6, 0}, {0, 5, 5, 6, 0}, {5, 1, -1, 6, 0}, {5, 1, 5, 12, 0},
            {5, 1, 6, 5, 0}, {5, 1, 5, 6, -1}, {5, 1, 5, 6, 8}, {5, 1, 5, 6, 4}, {5, 1, 5, 6, 64}, {5, 1, 5, 6, HIGH}, {5, 1, 5, 6, LOW},
            {5, 1, 5, 6, 8 * 4 + 4}, {5, 1, LOW, HIGH, 0}, {5, 1, 12, 12, 0}};
        for (int[] w : wrong) {
            due("wrong", x.graded(w[0], w[1], w[2], w[3], w[4]), BAD);
        }
        due("all wood", x.graded(5, 2, 0, 11, 0), 0);
        due("the log tapers", x.graded(5, 2, 0, 11, 1), -1);
        due("all wood, narrower", x.graded(5, 2, 1, 10, 1), 0);
        due("no wood to the left", x.graded(0, 1, 3, 7, 0), -1);
        due("no wood to the right", x.graded(0, 1, 4, 8, 0), -1);
        due("one cell", x.graded(0, 1, 4, 4, 0), 0);
        due("s and t", x.graded(5, 2, 3, 8, 8 * 3 + 3), 0);
        due("no wood in a row between", x.graded(0, 4, 4, 7, 8 + 1), -1);
    }

    private static void grades() {
        d.part("grades");
        // one row (both faces) of a log without taper, a knot of one slice: it hurts x 6 .. 11 of y 5, 6
        LogSawyer x = with(6, 0, 8);
        x.fault(0, 0, 0, 1);
        due("0: worse 0", x.graded(5, 1, 0, 5, 7), 0);
        due("better above 0: not 1", x.graded(5, 1, 0, 6, 7), 2);
        due("1: 8 worse is the area", x.graded(4, 2, 5, 6, 3), 1);
        due("8 worse is more than the area", x.graded(4, 2, 6, 6, 6), 2);
        due("1: upper hurts alone", x.graded(6, 2, 5, 6, 3), 1);
        due("2: 2 worse is the area", x.graded(5, 2, 6, 6, 1), 2);
        due("3: 2 worse is more", x.graded(5, 2, 6, 6, 0), 3);
        due("only the faces count", x.graded(4, 4, 0, 11, 0), 0);
        x.log(6, 0, 8);
        x.fault(5, 0, 7, 1);
        due("rot: 9 is no 2", x.graded(5, 2, 0, 11, 7), 3);
        due("ahead of the rot", x.graded(5, 2, 0, 11, 6), 0);
        due("better is 18, the area 2", x.graded(5, 2, 5, 6, 8 * 7 + 7), 4);
        due("3: better is 18, the area 18", x.graded(5, 2, 0, 8, 8 * 6 + 7), 3);
        due("3: better is 18, the area 16", x.graded(5, 2, 0, 7, 8 * 6 + 7), 4);
        due("rot in one face: 8 worse above the area, better 0", x.graded(4, 2, 0, 11, 7), 3);
        due("1 takes no rot of so small an area", x.graded(4, 2, 1, 5, 7), 3);
        x.log(6, 0, 8);
        x.fault(4, 0, 5, 1);
        due("ring: 2 by 4 in three slices are 24 of 96", x.graded(5, 2, 0, 11, 7), 2);
        due("4: worse and better above the area", x.graded(5, 2, 5, 5, 8 * 5 + 5), 4);
    }

    private static void worth() {
        d.part("promise 14");
        LogSawyer x = new LogSawyer();
        due("no log", x.worth(0, 1), NO);
        x.log(6, 0, 4);
        due("12 by 4 by 2 by 9", x.worth(5, 2), 12 * 4 * 2 * 9);
        due("4 by 4 by 4 by 9", x.worth(0, 4), 4 * 4 * 4 * 9);
        due("not sawn, but a board", x.worth(0, 1), 4 * 4 * 9);
        int[][] wrong = {{-1, 1}, {12, 1}, {9, 4}, {0, 0}, {0, 5}, {LOW, 2}, {HIGH, 4}, {4, LOW}, {4, HIGH}};
        for (int[] w : wrong) {
            due("wrong", x.worth(w[0], w[1]), NO);
        }
        x.rule(2, 99);
        due("99", x.worth(5, 2), 12 * 4 * 2 * 99);
        x.rule(2, 0);
        due("nothing", x.worth(5, 2), 0);
    }

    private static void opening() {
        d.part("promise 15");
        LogSawyer x = new LogSawyer();
        due("STATE ahead of BAD", x.opening(0, 3), STATE);
        x.log(6, 0, 1);
        due("BAD ahead of -12", x.opening(99, 3), BAD);
        due("BAD for how many, too", x.opening(-1, -1), BAD);
        x.rule(6, 16);
        x.rule(0, 0);
        // three of four rows each: 0 .. 3 has 4 columns, 4 .. 7 has 12 less 2: rows 4 and 7 (v 3): u 11 is 130: 12
        dueOpening(x, new int[][] {{0, 4, 0}, {4, 4, 0}, {8, 4, 0}});
        x.rule(0, 1);
        // but with kerf two fit only: as much as can be had
        due("two boards", x.opening(-1, 0), 2);
        due("-2", x.opening(-2, 0), -12);
        due("2", x.opening(2, 0), -12);
        due("LOW", x.opening(LOW, 0), -12);
        due("HIGH", x.opening(HIGH, 0), -12);
        x.rule(6, 0);
        due("none is sawn", x.opening(-1, 0), 0);
        due("none is sawn", x.opening(0, 0), -12);
    }

    private static void dueOpening(LogSawyer x, int[][] boards) {
        due("how many", x.opening(-1, 0), boards.length);
        for (int k = 0; k < boards.length; k++) {
            for (int what = 0; what < 3; what++) {
                due("opening " + k + ", " + what, x.opening(k, what), boards[k][what]);
            }
        }
    }

    private static void openingTies() {
        d.part("promise 15, ties");
        // radius 2, one slice: rows 4 .. 7 have 2, 4, 4, 2 columns
        LogSawyer x = with(2, 0, 1);
        x.rule(0, 0);
        x.rule(6, 2 + 4);
        // 4 thick 1 (2), 5 thick 2 (8), 7 thick 1 (2): 12 in all; so are four thin ones: the thicker at row 5
        dueOpening(x, new int[][] {{4, 1, 0}, {5, 2, 0}, {7, 1, 0}});
        x.rule(0, 2);
        // one of 5, 6 (8) alone, as much as nothing else
        dueOpening(x, new int[][] {{5, 2, 0}});
        x.rule(6, 2);
        // 4 and 7: 4 together; 5 alone: 4, 6 alone: 4: one at row 4 is ahead of none there
        dueOpening(x, new int[][] {{4, 1, 0}, {7, 1, 0}});
        x.rule(0, 1);
        // 4 and 6 (6), 5 and 7 (6), 4 and 7
        dueOpening(x, new int[][] {{4, 1, 0}, {6, 1, 0}});
    }

    private static void best() {
        d.part("promise 16");
        LogSawyer x = new LogSawyer();
        due("no log", x.best(0), NO);
        x.log(6, 0, 8);
        due("-2", x.best(-2), NO);
        due("4", x.best(4), NO);
        due("HIGH", x.best(HIGH), NO);
        due("rows 1 .. 3 (8), 5 .. 7 (12), 9, 10 (8)", x.best(0), 8 * 8 * 3 * 9 + 12 * 8 * 3 * 9 + 8 * 8 * 2 * 9);
        read(x, "k022 h231 o061");
        long[] want = {2160, 3240, 2160, 3240};
        for (int t = 0; t < 4; t++) {
            due("best " + t, x.best(t), want[t]);
        }
        due("by the best turn", x.best(-1), 3240);
        x.turn(3);
        due("as the log's own turn, not on top of another", x.best(0), 2160);
        due("the turn stays", x.count(4), 3);
    }

    private static void bestTurn() {
        d.part("promise 17");
        LogSawyer x = new LogSawyer();
        due("no log", x.bestTurn(), STATE);
        x.log(6, 0, 8);
        x.turn(2);
        due("all as good: the least", x.bestTurn(), 0);
        read(x, "k022 h231 o061");
        due("1 and 3 are as good", x.bestTurn(), 1);
        due("the turn stays", x.count(4), 2);
        x.rule(6, 0);
        due("nothing is sawn", x.bestTurn(), 0);
    }

    private static void saw() {
        d.part("promise 18");
        LogSawyer x = new LogSawyer();
        due("no log", x.saw(), STATE);
        x.log(6, 0, 4);
        x.fault(0, 0, 0, 1);
        x.turn(1);
        x.rule(6, 2);
        x.rule(0, 0);
        due("twelve thin ones", x.saw(), 12);
        due("no log", x.count(3), 0);
        due("no faults", x.count(0), 0);
        due("turn 0", x.count(4), 0);
        due("no log any more", x.saw(), STATE);
        int[] columns = {4, 8, 10, 10, 12, 12, 12, 12, 10, 10, 8, 4};
        for (int k = 0; k < 12; k++) {
            due("columns of " + k, x.stack(k, 1), columns[k]);
        }
        x.log(6, 0, 4);
        due("they have no room", x.saw(), FULL);
        due("the log stays", x.count(3), 4);
        x.rule(6, 8);
        x.rule(0, 0);
        due("three of thickness 3", x.saw(), 3);
        due("behind the others", x.stack(12, 0), 3);
        x.log(2, 0, 1);
        due("there is room for one", x.saw(), 1);
        due("sixteen", x.stack(-1, 0), 16);
        x.log(6, 0, 4);
        due("no room for one", x.saw(), FULL);
        x.rule(6, 0);
        due("none comes, and the log is gone", x.saw(), 0);
        due("no log", x.count(3), 0);
    }

    private static void stack() {
        d.part("promise 19");
        LogSawyer x = new LogSawyer();
        due("empty", x.stack(-1, 3), 0);
        due("empty", x.stack(0, 0), -12);
        due("what 4", x.stack(-1, 4), BAD);
        due("BAD ahead of -12", x.stack(0, -1), BAD);
        x.log(5, 3, 6);
        feedText(x, "k021l142s312h411r013o052t221");
        x.text();
        x.saw();
        int[][] want = {{3, 4, 3, 0}, {2, 10, 1, 0}, {2, 4, 1, 0}};
        for (int k = 0; k < 3; k++) {
            for (int what = 0; what < 4; what++) {
                due("stack " + k + ", " + what, x.stack(k, what), want[k][what]);
            }
        }
        due("3", x.stack(3, 0), -12);
        due("-2", x.stack(-2, 0), -12);
        due("HIGH", x.stack(HIGH, 0), -12);
    }

    private static void order() {
        d.part("promise 20");
        LogSawyer x = new LogSawyer();
        int[][] wrong = {{0, 0, 1, 1}, {5, 0, 1, 1}, {1, -1, 1, 1}, {1, 4, 1, 1}, {1, 0, 0, 1}, {1, 0, 13, 1}, {1, 0, 1, 0}, {1, 0, 1, 9},
            {LOW, 0, 1, 1}, {1, HIGH, 1, 1}};
        for (int[] w : wrong) {
            due("wrong", x.order(w[0], w[1], w[2], w[3]), BAD);
        }
        due("the least", x.order(1, 0, 1, 1), 0);
        due("the most", x.order(4, 3, 12, 8), 1);
        for (int i = 2; i < 6; i++) {
            due("a number", x.order(2, 2, 2, 2), i);
        }
        due("BAD ahead of FULL", x.order(0, 0, 1, 1), BAD);
        due("FULL", x.order(1, 0, 1, 1), FULL);
        due("six", x.count(2), 6);
    }

    /** Boards of thickness 1, grade 0, four slices: 4, 8, 10, 10, 12, 12, 12, 12, 10, 10, 8, 4 columns. */
    private static LogSawyer stacked() {
        LogSawyer x = with(6, 0, 4);
        x.rule(6, 2);
        x.rule(0, 0);
        x.saw();
        return x;
    }

    private static void met() {
        d.part("promise 21");
        LogSawyer x = stacked();
        due("what 2", x.met(2), BAD);
        due("what -1", x.met(-1), BAD);
        due("no orders", x.met(0), 0);
        due("no orders", x.met(1), 0);
        x.order(2, 3, 1, 1);
        due("of another thickness", x.met(0) + x.met(1), 0);
        x.order(1, 0, 12, 4);
        due("one", x.met(0), 2);
        due("four boards", x.met(1), 4);
        x.order(1, 3, 11, 5);
        due("too long", x.met(0), 2);
        x.order(1, 3, 9, 1);
        due("one, three", x.met(0), 2 + 8);
        due("eight boards", x.met(1), 8);
        LogSawyer two = with(2, 0, 2);
        two.rule(6, 2);
        two.rule(0, 2);
        two.fault(0, 0, 0, 4);
        two.fault(0, 4, 0, 4);
        due("two boards", two.saw(), 2);
        int grade = two.stack(0, 3);
        due("of grade 3", grade, 3);
        two.order(1, 2, 1, 1);
        due("no worse grade", two.met(0), 0);
        two.order(1, 3, 1, 1);
        two.order(1, 3, 1, 1);
        two.order(1, 3, 1, 1);
        due("each a board of its own, from order 0 on", two.met(0), 2 + 4);
        due("two boards", two.met(1), 2);
        LogSawyer chain = with(2, 0, 1);
        chain.rule(6, 2);
        chain.rule(0, 0);
        chain.saw();
        // 2, 4, 4, 2 columns: the wide orders must not be taken out by the slight ones
        chain.order(1, 0, 1, 1);
        chain.order(1, 0, 1, 1);
        chain.order(1, 0, 3, 1);
        chain.order(1, 0, 3, 1);
        chain.order(1, 0, 3, 1);
        chain.order(1, 0, 1, 1);
        due("all but the third wide and the third slight one", chain.met(0), 15);
    }

    private static void serve() {
        d.part("promise 22");
        LogSawyer x = new LogSawyer();
        due("nothing", x.serve(), 0);
        x = with(2, 0, 1);
        x.rule(6, 2);
        x.rule(0, 0);
        x.saw();
        x.order(1, 0, 1, 1);
        x.order(4, 0, 1, 1);
        x.order(1, 0, 4, 1);
        x.order(1, 0, 2, 1);
        x.order(1, 0, 4, 1);
        due("which", x.met(0), 1 + 4 + 8 + 16);
        due("four", x.serve(), 4);
        due("no boards are left", x.stack(-1, 0), 0);
        due("one order is left", x.count(2), 1);
        x.log(2, 0, 1);
        x.rule(6, 16);
        x.saw();
        due("the order left is 0 now", x.met(0), 1);
        due("it is served", x.serve(), 1);
        x.log(2, 0, 1);
        x.rule(6, 2);
        x.saw();
        x.order(1, 0, 1, 1);
        x.order(1, 0, 4, 1);
        due("two", x.serve(), 2);
        // the least board each: 0 and 1 of 2, 4, 4, 2
        due("4 is left ahead", x.stack(0, 1), 4);
        due("2 is left behind", x.stack(1, 1), 2);
        x.order(1, 0, 1, 1);
        x.order(1, 0, 3, 1);
        // of 4, 2 the first order may not take the 4
        due("two more", x.serve(), 2);
        due("none is left", x.count(1) + x.count(2), 0);
    }

    private static void without() {
        d.part("promise 23");
        LogSawyer x = new LogSawyer();
        due("no log", x.without(0), NO);
        x.log(6, 0, 8);
        long clean = x.best(0);
        due("no fault", x.without(0), NO);
        x.fault(5, 0, 0, 4);
        x.fault(3, 2, 0, 4);
        long both = x.best(0);
        x.heal(0);
        long shakeAlone = x.best(0);
        x.heal(0);
        x.fault(5, 0, 0, 4);
        long rotAlone = x.best(0);
        due("it would be clean", x.without(0), clean);
        x.fault(3, 2, 0, 4);
        due("without the rot", x.without(0), shakeAlone);
        due("without the shake", x.without(1), rotAlone);
        due("they stay", x.best(0), both);
        due("they stay", x.count(0), 2);
        due("-1", x.without(-1), NO);
        due("2", x.without(2), NO);
        due("all differ", both < rotAlone && rotAlone < clean && shakeAlone < clean ? 1 : 0, 1);
    }

    private static void drawn() {
        d.part("promise 24");
        LogSawyer x = new LogSawyer();
        due("no log", x.drawn(1, 1), NO);
        x.log(6, 1, 8);
        due("-1", x.drawn(1, -1), NO);
        due("9", x.drawn(1, 9), NO);
        int[] seeds = {0, 1, 2, 77, -1, LOW, HIGH};
        for (int seed : seeds) {
            for (int n = 0; n <= 8; n++) {
                LogSawyer same = with(6, 1, 8);
                int z = seed;
                for (int i = 0; i < n; i++) {
                    int[] f = new int[4];
                    for (int k = 0; k < 4; k++) {
                        z = z * 1103515245 + 12345;
                        f[k] = z >>> 9;
                    }
                    same.fault(f[0] % 7, f[1] % 8, f[2] % 8, f[3] % 4 + 1);
                }
                due("drawn " + seed + ", " + n, x.drawn(seed, n), same.best(0));
            }
        }
        due("in thought", x.count(0), 0);
        for (int i = 0; i < 7; i++) {
            x.fault(6, 0, 7, 1);
        }
        due("eight in all: one more", x.drawn(5, 8), x.drawn(5, 1));
        x.fault(6, 0, 7, 1);
        due("eight in all: none more", x.drawn(5, 8), x.best(0));
    }

    private static void chance() {
        d.part("promise 25");
        LogSawyer x = new LogSawyer();
        due("STATE ahead of BAD", x.chance(1, 0, 0, 0), STATE);
        x.log(6, 0, 8);
        due("m 0", x.chance(1, 0, 0, 0), BAD);
        due("m 9", x.chance(1, 9, 0, 0), BAD);
        due("worth -1", x.chance(1, 1, -1, 0), BAD);
        due("part 2", x.chance(1, 1, 0, 2), BAD);
        due("part -1", x.chance(1, 1, 0, -1), BAD);
        due("surely", x.chance(1, 6, 0, 0), 1);
        due("surely", x.chance(1, 6, 0, 1), 1);
        due("never", x.chance(1, 6, HIGH, 0), 0);
        due("never", x.chance(1, 6, HIGH, 1), 1);
        int lowest = 0;
        for (int seed : new int[] {0, 100, -3, HIGH - 2, HIGH}) {
            for (int m = 1; m <= 8; m++) {
                int worth = (int) x.drawn(seed + m - 1, 2);
                int hits = 0;
                for (int i = 0; i < m; i++) {
                    hits += x.drawn(seed + i, 2) >= worth ? 1 : 0;
                }
                int above = x.chance(seed, m, worth, 0), below = x.chance(seed, m, worth, 1);
                due("the same part", above * m, hits * below);
                due("lowest terms", java.math.BigInteger.valueOf(above).gcd(java.math.BigInteger.valueOf(below)).intValue(), 1);
                lowest += below < m && below > 1 ? 1 : 0;
            }
        }
        due("some were made lower", lowest > 0 ? 1 : 0, 1);
    }

    private static void tells() {
        d.part("promise 26");
        LogSawyer x = new LogSawyer();
        due("STATE ahead of BAD", x.tells(4, 0), STATE);
        x.log(6, 0, 4);
        due("sheet 4", x.tells(4, 0), BAD);
        due("sheet -1", x.tells(-1, 0), BAD);
        due("BAD ahead of -11", x.tells(0, 3), BAD);
        due("what -1", x.tells(0, -1), BAD);
        due("missing", x.tells(0, 0), -11);
        x.sheet(0, 0, 13);
        due("13 numbers", x.tells(0, 0), BAD);
        x.sheet(0, 0, 12);
        due("too many", x.tells(0, 0), 3);
        due("by no turn", x.tells(0, 1), 0);
        x.sheet(0, 1, 3);
        due("all so", x.tells(0, 0), -1);
        due("by all turns", x.tells(0, 1), 15);
        x.put(0, 1, 3);
        due("otherwise at 1", x.tells(0, 0), 1);
        x.sheet(0, 1, 2);
        due("too few", x.tells(0, 0), 2);
        x.sheet(1, 0, 3);
        x.put(1, 2, 1L << 32);
        due("a long that is not 0", x.tells(1, 0), 2);
        x.rule(6, 4);
        x.rule(0, 0);
        x.sheet(0, 1, 6);
        due("six without kerf", x.tells(0, 0), -1);
        due("without alone", x.tells(0, 2), 1);
        x.sheet(0, 1, 4);
        due("one too few", x.tells(0, 0), 4);
        due("kerf 1 gives four", x.tells(0, 2), 2);
        due("the kerf stays", x.rule(0, 2), 0);
        x.sheet(0, 1, 3);
        due("three", x.tells(0, 0), -1);
        due("kerf 2 gives three", x.tells(0, 2), 4);
        x.rule(6, 0);
        x.sheet(0, 1, 0);
        due("none told, none sawn", x.tells(0, 0), -1);
        due("by all kerfs", x.tells(0, 2), 7);
        x = with(6, 0, 8);
        read(x, "k022 h231 o061");
        x.sheet(2, 1, x.opening(-1, 0));
        due("turns 0 and 2", x.tells(2, 1), 5);
        x.turn(1);
        due("one too many of three", x.tells(2, 0), 2);
        due("the turn plays no part", x.tells(2, 1), 5);
        due("the turn stays", x.count(4), 1);
    }

    private static void imageAndBack() {
        d.part("promises 27, 28");
        LogSawyer x = new LogSawyer();
        due("none", x.back(), STATE);
        due("an image of nothing", x.image(), 0);
        x.log(6, 1, 7);
        read(x, "k022 h231 o061");
        x.turn(1);
        x.rule(0, 2);
        x.rule(6, 14);
        x.order(2, 1, 3, 4);
        long was = x.best(1);
        due("three faults", x.image(), 3);
        x.sheet(0, 0, 3);
        x.feed(2, 'k', '0', 0, 0, 0);
        x.heal(0);
        x.fault(4, 4, 4, 4);
        x.turn(3);
        x.order(3, 1, 3, 4);
        x.rule(0, 0);
        x.rule(1, 0);
        x.rule(2, 50);
        x.saw();
        x.log(2, 0, 1);
        due("back", x.back(), 3);
        due("turn", x.count(4), 1);
        due("slices", x.count(3), 7);
        due("orders", x.count(2), 1);
        due("boards", x.count(1), 0);
        due("kinds", 100 * x.told(0, 0) + 10 * x.told(1, 0) + x.told(2, 0), 35);
        due("worth", x.best(1), was);
        due("worth, as it lies", x.best(x.count(4)), was);
        due("the tape is not kept", x.count(5), 2);
        due("sheets are not kept", x.put(0, 2, 1), 1);
        due("kerf", x.rule(0, 0), 2);
        due("save", x.rule(1, 1), 1);
        due("price", x.rule(2, 9), 9);
        due("thick", x.rule(6, 12), 14);
        x.heal(2);
        due("back again", x.back(), 3);
        due("kerf again", x.rule(0, 0), 2);
        x.saw();
        int boards = x.count(1);
        due("an image of what is stacked", x.image(), 0);
        x.order(2, 3, 1, 1);
        x.order(3, 3, 1, 1);
        x.serve();
        x.log(6, 0, 8);
        due("back", x.back(), 0);
        due("boards", x.count(1), boards);
        due("no log again", x.turn(0), STATE);
        due("orders", x.count(2), 1);
    }

    private static void count() {
        d.part("promise 29");
        LogSawyer x = new LogSawyer();
        due("7", x.count(7), BAD);
        due("-1", x.count(-1), BAD);
        x.log(2, 0, 3);
        // the knot: x 6, 7 of y 5, 6 in slice 1; the shake: the same rows, x 4 .. 7, from slice 2 on
        read(x, "k011 h021 k011");
        x.turn(1);
        x.order(1, 1, 1, 1);
        x.feed(3, 0, 0, 0, 0, 0);
        int[] want = {3, 0, 1, 3, 1, 3, 4 + 8};
        for (int what = 0; what < 7; what++) {
            due("count " + what, x.count(what), want[what]);
        }
        x.saw();
        due("boards", x.count(1) > 0 ? 1 : 0, 1);
        due("none is hurt without a log", x.count(6), 0);
    }

    private static void sheet() {
        d.part("promise 30");
        LogSawyer x = new LogSawyer();
        due("4", x.sheet(4, 0, 1), BAD);
        due("-1", x.sheet(-1, 0, 1), BAD);
        due("sort 2", x.sheet(0, 2, 1), BAD);
        due("sort -2", x.sheet(0, -2, 1), BAD);
        due("41", x.sheet(0, 0, 41), BAD);
        due("-1 long", x.sheet(0, 0, -1), -14);
        due("LOW long", x.sheet(0, 1, LOW), -14);
        due("BAD ahead of -14", x.sheet(4, 0, -1), BAD);
        due("still missing", x.put(0, 0, 1), -11);
        due("40", x.sheet(0, 0, 40), 1);
        due("the last", x.put(0, 39, 1), 1);
        due("beyond", x.put(0, 40, 1), -12);
        due("0", x.sheet(3, 1, 0), 1);
        due("none is in it", x.put(3, 0, 1), -12);
        due("missing, n is 99", x.sheet(0, -1, 99), 1);
        due("missing, n is -99", x.sheet(0, -1, -99), 1);
        due("missing", x.put(0, 0, 1), -11);
        x.log(6, 0, 4);
        x.sheet(0, 0, 3);
        x.put(0, 0, 7);
        x.sheet(0, 0, 3);
        due("all 0 again", x.tells(0, 0), -1);
        x.put(0, 0, 7);
        due("a refusal changes nothing", x.sheet(0, 0, 41), BAD);
        due("a refusal changes nothing", x.sheet(0, 0, -1), -14);
        due("7 is still there", x.tells(0, 0), 0);
    }

    private static void put() {
        d.part("promise 31");
        LogSawyer x = with(6, 0, 4);
        due("4", x.put(4, 0, 1), BAD);
        due("-1", x.put(-1, 0, 1), BAD);
        due("missing ahead of -12", x.put(0, -1, 1), -11);
        x.sheet(0, 1, 3);
        x.sheet(1, 0, 3);
        due("-1", x.put(0, -1, 1), -12);
        due("3", x.put(0, 3, 1), -12);
        due("HIGH", x.put(0, HIGH, 1), -12);
        due("of ints the lowest 32 bits", x.put(0, 2, 1L << 32), 1);
        due("they are 0", x.tells(0, 0), -1);
        due("longs whole", x.put(1, 2, 1L << 32), 1);
        due("that is not 0", x.tells(1, 0), 2);
        due("in its place", x.put(1, 1, -1), 1);
        due("in its place", x.tells(1, 0), 1);
    }

    private static void copy() {
        d.part("promise 32");
        LogSawyer x = with(6, 0, 4);
        due("4 from", x.copy(4, 0, 0, 0, 0), BAD);
        due("-1 to", x.copy(0, 0, -1, 0, 0), BAD);
        x.sheet(0, 0, 3);
        due("missing to", x.copy(0, 0, 1, 0, 0), -11);
        due("missing from", x.copy(1, 0, 0, 0, 0), -11);
        x.sheet(1, 1, 5);
        due("unlike sorts ahead of -12", x.copy(0, 9, 1, 9, -1), -13);
        x.sheet(1, 0, 5);
        int[][] outside = {{-1, 0, 1}, {0, -1, 1}, {0, 0, -1}, {3, 0, 1}, {0, 5, 1}, {1, 0, 3}, {0, 3, 3}, {4, 0, 0}, {0, 6, 0},
            {HIGH, 0, 1}, {1, 0, HIGH}, {0, HIGH, HIGH}, {LOW, 0, 0}, {0, 0, LOW}, {HIGH, HIGH, HIGH}};
        for (int[] o : outside) {
            due("outside", x.copy(0, o[0], 1, o[1], o[2]), -12);
        }
        due("nothing at the ends", x.copy(0, 3, 1, 5, 0), 0);
        due("all", x.copy(0, 0, 1, 2, 3), 3);
        // as they were: 1 2 3 0 0 moved one on in itself is 1 1 2 3 0
        x.sheet(2, 0, 3);
        x.put(2, 0, 1);
        x.put(2, 1, 0);
        x.put(2, 2, 0);
        due("on in itself", x.copy(2, 0, 2, 1, 2), 2);
        x.put(2, 0, 0);
        due("1 came to item 1", x.tells(2, 0), 1);
        x.put(2, 1, 0);
        due("and not on to item 2", x.tells(2, 0), -1);
        x.put(2, 2, 5);
        due("back in itself", x.copy(2, 1, 2, 0, 2), 2);
        due("item 2 stays", x.tells(2, 0), 1);
        due("over another", x.copy(0, 0, 2, 1, 2), 2);
        due("0 0 0 again", x.tells(2, 0), -1);
    }
}
