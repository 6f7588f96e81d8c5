/** The edges that the document names of boards, pieces, grades, the opening, the best turn: section 2, promises 12 to 17. */
public final class BoardEdgesTest {
    private static final Due d = new Due();
    // Of radius 6 without taper, by rows; thickness n has those of its outer row.
    private static final int[] COLUMNS = {4, 8, 10, 10, 12, 12, 12, 12, 10, 10, 8, 4};

    public static void main(String[] args) {
        boards();
        columns();
        cuts();
        areaAndWorth();
        bestPiece();
        bestPieceTies();
        noBestPiece();
        boardNumbers();
        gradedNumbers();
        gradedWood();
        gradeEdges();
        worthNumbers();
        thicknesses();
        kerf();
        openingTies();
        openingNumbers();
        bestNumbers();
        d.end("BoardEdgesTest");
    }

    private static void say(String words, String... texts) {
        Script.sentence(d, words, texts);
    }

    private static void boards() {
        d.part("2: A BOARD (y, THICKNESS n 1 .. 4): rows y .. y + n - 1, 11 at most");
        Script s = new Script(d).run("log(6, 0, 1)");
        for (int n = -1; n <= 6; n++) {
            for (int y = -1; y <= 12; y++) {
                boolean is = n >= 1 && n <= 4 && y >= 0 && y + n - 1 <= 11;
                int columns = is ? Math.min(COLUMNS[y], COLUMNS[y + n - 1]) : 0;
                s.due("board(" + y + ", " + n + ", 2)", is ? 0 : -2);
                s.due("graded(" + y + ", " + n + ", 5, 6, 0)", is ? 0 : -2);
                s.due("worth(" + y + ", " + n + ")", is ? columns * n * 9 : LogSawyer.NO);
            }
        }
        say("2: rows and thicknesses far outside", """
            log(6, 0, 1); board(MAX, 1, 0) = BAD; board(MAX, 4, 0) = BAD; board(MIN, 1, 0) = BAD; board(0, MAX, 0) = BAD; board(0, MIN, 0) = BAD
            graded(MAX, 4, 5, 6, 0) = BAD; graded(5, MIN, 5, 6, 0) = BAD; worth(MAX, 4) = NO; worth(MIN, 1) = NO; worth(5, MAX) = NO
            worth(5, MIN) = NO
            """);
    }

    private static void columns() {
        d.part("2: COLUMNS: x where all its rows are WOOD");
        Script s = new Script(d).run("log(6, 0, 1)");
        for (int n = 1; n <= 4; n++) {
            for (int y = 0; y + n <= 12; y++) {
                int columns = Math.min(COLUMNS[y], COLUMNS[y + n - 1]);
                s.due("board(" + y + ", " + n + ", 0)", 6 - columns / 2);
                s.due("board(" + y + ", " + n + ", 1)", 5 + columns / 2);
            }
        }
    }

    private static void cuts() {
        // Radius 6, 5, 4, 3: rows 5, 6 have 12, 10, 8, 6 columns.
        say("2: The whole one: all SLICES, all COLUMNS at the last", """
            log(6, 4, 4); rule(1, 0); board(5, 1, 0) = 3; board(5, 1, 1) = 8; board(5, 1, 2) = 0; board(5, 1, 3) = 3; worth(5, 1) = 216
            log(6, 4, 3); board(5, 1, 0) = 2; board(5, 1, 1) = 9; board(5, 1, 3) = 2
            log(6, 4, 4); board(0, 1, 0) = NONE; worth(0, 1) = 0   # no columns at the last
            log(6, 0, 1); board(0, 1, 0) = 4; board(0, 1, 3) = 0   # one slice is all of them
            """);
        say("2: if SAVE is 1, of SLICES s .. t all COLUMNS at t, too (cut across)", """
            log(6, 4, 4); board(0, 1, 0) = 4; board(0, 1, 1) = 7; board(0, 1, 2) = 0; board(0, 1, 3) = 0; worth(0, 1) = 36
            rule(1, 0); board(0, 1, 0) = NONE; rule(1, 1); board(0, 1, 0) = 4
            """);
        say("2: cut across: from any s to any t", """
            log(6, 0, 8); fault(5, 0, 5, 4); fault(3, 0, 0, 1); board(5, 2, 2) = 3; board(5, 2, 3) = 4; board(5, 2, 0) = 0; board(5, 2, 1) = 11
            log(6, 0, 8); fault(5, 0, 1, 4); board(5, 2, 2) = 0; board(5, 2, 3) = 7; board(5, 2, 0) = 0; board(5, 2, 1) = 1   # along: 16 ahead of 12
            """, """
            log(6, 0, 8); fault(3, 0, 0, 4); fault(0, 0, 6, 1); fault(0, 4, 6, 1); rule(4, 0); rule(5, 0); board(5, 2, 2) = 7
            board(5, 2, 3) = 7; board(5, 2, 0) = 0
            """);
        say("2: of all SLICES some a .. b of the COLUMNS at the last (cut along)", """
            log(6, 0, 8); rule(3, 0); rule(4, 0); rule(5, 0); fault(0, 0, 0, 1)
            fault(0, 0, 7, 1); fault(0, 0, 3, 2); board(5, 2, 0) = 0; board(5, 2, 1) = 5; board(5, 2, 2) = 0; board(5, 2, 3) = 7; worth(5, 2) = 864
            rule(1, 0); board(5, 2, 0) = NONE; worth(5, 2) = 0
            """, """
            log(6, 0, 8); rule(3, 0); rule(4, 0); rule(5, 0); fault(3, 2, 0, 4); fault(3, 2, 4, 4)
            fault(0, 4, 0, 1); board(5, 2, 0) = 7; board(5, 2, 1) = 11   # to the last column
            """, """
            log(6, 0, 8); rule(3, 0); rule(4, 0); rule(5, 0); fault(4, 0, 0, 4); fault(4, 0, 6, 4)
            board(5, 2, 0) = 3; board(5, 2, 1) = 8; board(5, 2, 2) = 0; board(5, 2, 3) = 7; worth(5, 2) = 864   # within a ring: from both sides
            board(2, 1, 0) = 1; board(2, 1, 1) = 2; board(8, 1, 0) = 4; board(8, 1, 1) = 7
            """);
        say("2: not both ways: a few columns of a few slices can't be had", """
            log(6, 0, 8); rule(3, 0); rule(4, 0); rule(5, 0); fault(3, 2, 0, 2); fault(5, 0, 4, 4)
            board(5, 2, 0) = 0; board(5, 2, 1) = 1; board(5, 2, 2) = 0; board(5, 2, 3) = 7; worth(5, 2) = 288   # 0 .. 4 of slices 0 .. 3 would be 360
            """);
    }

    private static void areaAndWorth() {
        say("2: WORTH: AREA by THICKNESS by the PRICE of its GRADE", """
            log(6, 0, 8); worth(5, 1) = 864; worth(5, 2) = 1728; worth(4, 3) = 2592; worth(4, 4) = 3456; rule(2, 99); worth(4, 4) = 38016
            rule(2, 1); worth(4, 4) = 384; rule(2, 0); worth(4, 4) = 0
            """);
        // A rot of two cells a face in the last slice: SAVE 0 leaves the whole one of grade 3.
        say("2: by the PRICE of GRADES 1, 2, 3", """
            log(2, 0, 8); rule(1, 0); fault(6, 2, 7, 1); board(5, 2, 4) = 1; worth(5, 2) = 384; rule(3, 99); worth(5, 2) = 6336
            log(2, 0, 8); fault(0, 0, 0, 1); board(5, 2, 4) = 2; worth(5, 2) = 192; rule(4, 98); worth(5, 2) = 6272
            log(2, 0, 8); fault(5, 0, 7, 1); board(5, 2, 4) = 3; worth(5, 2) = 64; rule(5, 97); worth(5, 2) = 6208; rule(5, 0); worth(5, 2) = 0
            """);
    }

    private static void bestPiece() {
        // A shake down the middle of the last two of four slices: the whole one is 48 of grade 2, cut across 24 of grade 0.
        say("2: The BEST PIECE: the one of most WORTH", """
            log(6, 0, 4); fault(3, 2, 2, 1); rule(2, 10); rule(4, 5); rule(3, 0); rule(5, 0)
            board(5, 2, 3) = 3; board(5, 2, 4) = 2; worth(5, 2) = 480    # as much as 240 by 2
            rule(4, 4); board(5, 2, 3) = 1; board(5, 2, 4) = 0; worth(5, 2) = 480
            rule(4, 6); board(5, 2, 3) = 3; worth(5, 2) = 576
            """);
        // Each piece of rows 5, 6 is of grade 1, 2, 3, and that one has the best price.
        say("2: of most WORTH, where not GRADE 0 has the best PRICE", """
            log(6, 0, 8); rule(2, 1); rule(3, 99); rule(4, 1); fault(6, 1, 0, 1); board(5, 2, 3) = 7; board(5, 2, 4) = 1; worth(5, 2) = 19008
            board(5, 2, 0) = 0; board(5, 2, 1) = 11
            """, """
            log(6, 0, 8); rule(2, 1); rule(3, 1); rule(4, 99); fault(0, 0, 0, 4); fault(0, 0, 4, 4); board(5, 2, 2) = 0; board(5, 2, 3) = 7
            board(5, 2, 0) = 0; board(5, 2, 1) = 11; board(5, 2, 4) = 2; worth(5, 2) = 19008
            """, """
            log(6, 0, 8); rule(2, 1); rule(3, 1); rule(4, 1); rule(5, 99); fault(0, 0, 0, 4); fault(0, 0, 4, 4); fault(0, 4, 0, 4); fault(0, 4, 4, 4)
            board(5, 2, 2) = 0; board(5, 2, 3) = 7; board(5, 2, 0) = 0; board(5, 2, 1) = 11; board(5, 2, 4) = 3; worth(5, 2) = 19008
            """);
        say("2: of most WORTH: a small PIECE of a better PRICE", """
            log(2, 0, 1); rule(2, 6); fault(1, 0, 0, 1); board(4, 4, 0) = 5; board(4, 4, 1) = 5; board(4, 4, 4) = 0; worth(4, 4) = 24   # the whole one: 8
            rule(2, 2); board(4, 4, 1) = 6; board(4, 4, 4) = 3; worth(4, 4) = 8; rule(2, 3); board(4, 4, 1) = 5; worth(4, 4) = 12
            """, """
            log(2, 0, 1); rule(2, 6); fault(1, 4, 0, 1); board(4, 4, 0) = 6; board(4, 4, 1) = 6; board(4, 4, 4) = 0; worth(4, 4) = 24
            """);
        say("12: HURT of the FACES of the PIECE, not of what is cut off", """
            log(6, 0, 8); fault(2, 3, 0, 4); fault(2, 6, 0, 2); fault(0, 0, 3, 1); board(5, 2, 0) = 5; board(5, 2, 1) = 11; board(5, 2, 2) = 0
            board(5, 2, 3) = 7; board(5, 2, 4) = 2; board(5, 2, 5) = 28; board(5, 2, 6) = 22
            """, """
            log(6, 0, 8); fault(2, 4, 0, 2); fault(6, 2, 0, 2); fault(0, 0, 3, 1); board(5, 2, 0) = 6; board(5, 2, 1) = 11
            board(5, 2, 4) = 2; board(5, 2, 5) = 6; board(5, 2, 6) = 20; turn(2); board(5, 2, 0) = 0; board(5, 2, 1) = 5; board(5, 2, 5) = 20
            board(5, 2, 6) = 6
            """);
        say("12: HURT of the upper FACE, of the lower one", """
            log(6, 0, 8); rule(1, 0); fault(6, 2, 4, 1); board(5, 2, 4) = 1; board(5, 2, 5) = 0; board(5, 2, 6) = 8
            turn(2); board(5, 2, 5) = 8; board(5, 2, 6) = 0; board(5, 1, 5) = 8; board(5, 1, 6) = 8; board(6, 1, 5) = 0; turn(0)
            board(6, 1, 5) = 8; board(6, 1, 6) = 8
            """);
    }

    private static void bestPieceTies() {
        say("2: of several of most AREA", """
            log(6, 0, 4); fault(3, 2, 2, 1); rule(2, 2); rule(4, 1); board(5, 2, 2) = 0; board(5, 2, 3) = 3; board(5, 2, 4) = 2; worth(5, 2) = 96
            """, """
            log(6, 0, 6); fault(3, 2, 0, 1); rule(2, 2); rule(3, 0); rule(4, 1); board(5, 2, 2) = 0; board(5, 2, 3) = 5
            board(5, 2, 4) = 2; worth(5, 2) = 144
            rule(2, 3); board(5, 2, 2) = 3; worth(5, 2) = 216   # 72 by 1 was ahead of 36 by 2
            """);
        say("2: of several of most AREA: of any GRADE, at any row", """
            log(6, 0, 8); rule(2, 1); rule(3, 0); rule(4, 0); rule(5, 2); fault(0, 0, 0, 2); fault(0, 4, 0, 2)   # slices 0 .. 2: 36 of grade 3
            board(5, 2, 2) = 2; board(5, 2, 3) = 7; board(5, 2, 4) = 0; worth(5, 2) = 144; rule(5, 3); board(5, 2, 3) = 2; worth(5, 2) = 216
            """, """
            log(6, 0, 8); rule(2, 2); rule(3, 0); rule(4, 1); rule(5, 0); fault(0, 6, 4, 4)   # slices 0 .. 3: 16 of grade 0
            board(0, 1, 2) = 0; board(0, 1, 3) = 7; board(0, 1, 4) = 2; worth(0, 1) = 32; rule(2, 3); board(0, 1, 3) = 3; worth(0, 1) = 48
            """);
        say("2: of several the first by s", """
            log(6, 0, 7); rule(3, 0); rule(4, 0); rule(5, 0); fault(3, 0, 2, 1); board(5, 2, 2) = 0; board(5, 2, 3) = 1
            """, """
            log(6, 0, 8); rule(3, 0); rule(4, 0); rule(5, 0); fault(2, 0, 0, 2)   # slices 4 .. 7 of all, all of columns 0 .. 5: 48
            board(5, 2, 2) = 0; board(5, 2, 3) = 7; board(5, 2, 0) = 0; board(5, 2, 1) = 5
            """, """
            log(6, 0, 8); rule(5, 0); fault(0, 6, 0, 2); fault(3, 0, 2, 2); fault(0, 6, 6, 2)   # both of grade 2, at less than the best price
            board(5, 2, 4) = 2; board(5, 2, 2) = 0; board(5, 2, 3) = 1; worth(5, 2) = 144
            """);
        say("2: then t", """
            log(6, 4, 6); board(5, 1, 2) = 0; board(5, 1, 3) = 2; board(5, 1, 0) = 2; board(5, 1, 1) = 9   # 8 by 3, 6 by 4
            """, """
            log(6, 4, 3); board(1, 1, 2) = 0; board(1, 1, 3) = 0; board(1, 1, 0) = 2   # 8 by 1, 4 by 2
            """, """
            log(6, 4, 6); fault(0, 6, 0, 2); fault(0, 6, 2, 2); fault(0, 6, 4, 2); board(5, 2, 4) = 2; board(5, 2, 2) = 0
            board(5, 2, 3) = 2; worth(5, 2) = 144
            """, """
            log(6, 0, 8); rule(3, 0); rule(4, 0); rule(5, 0); fault(2, 0, 4, 2)   # slices 0 .. 3 of all, all of columns 0 .. 5: 48
            board(5, 2, 2) = 0; board(5, 2, 3) = 3; board(5, 2, 0) = 0; board(5, 2, 1) = 11
            """);
        say("2: then a, b", """
            log(6, 0, 8); rule(3, 0); rule(4, 0); rule(5, 0); fault(3, 2, 0, 4); fault(3, 2, 4, 4); board(5, 2, 0) = 0; board(5, 2, 1) = 4
            board(0, 1, 0) = 4; board(0, 1, 1) = 4   # 4 alone or 7 alone
            """, """
            log(6, 0, 8); rule(5, 0); fault(5, 0, 0, 4); fault(0, 0, 0, 1); fault(0, 4, 0, 1); board(5, 2, 4) = 2; board(5, 2, 0) = 0
            board(5, 2, 1) = 1; worth(5, 2) = 96
            """);
    }

    private static void noBestPiece() {
        d.part("2: NONE: none is WORTH anything");
        Script s = new Script(d).run("log(6, 0, 8); rule(2, 0)");
        Script shaken = new Script(d).run("log(6, 0, 8); fault(3, 0, 0, 4); fault(3, 0, 6, 1)");
        Script rotten = new Script(d).run("log(2, 0, 1); fault(5, 0, 0, 2)");
        Script outside = new Script(d).run("log(2, 0, 8)");
        for (int what = 0; what < 7; what++) {
            s.due("board(5, 2, " + what + ")", -1);
            shaken.due("board(5, 2, " + what + ")", -1);
            rotten.due("board(5, 2, " + what + ")", -1);
            outside.due("board(3, 1, " + what + ")", -1);
            outside.due("board(3, 2, " + what + ")", -1);
            outside.due("board(7, 2, " + what + ")", -1);
            outside.due("board(4, 4, " + what + ")", what == 0 ? 5 : what == 1 ? 6 : what == 3 ? 7 : 0);
        }
        rotten.run("graded(5, 2, 4, 7, 0) = 4; worth(5, 2) = 0; opening(-1, 0) = 0; rule(5, 99); board(5, 2, 0) = NONE");
        s.run("worth(5, 2) = 0; rule(2, 1); board(5, 2, 4) = 0; worth(5, 2) = 192");
        outside.run("worth(3, 2) = 0; worth(0, 4) = 0; worth(8, 1) = 0; worth(7, 1) = 144");
    }

    private static void boardNumbers() {
        say("12: what (0 .. 6)", """
            log(6, 0, 8); board(5, 2, -1) = BAD; board(5, 2, 0) = 0; board(5, 2, 6) = 0; board(5, 2, 7) = BAD; board(5, 2, MIN) = BAD
            board(5, 2, MAX) = BAD
            rule(2, 0); board(5, 2, -1) = BAD; board(5, 2, 7) = BAD; board(5, 2, 0) = NONE   # BAD where there is none, too
            """);
        say("12: STATE ahead of BAD", """
            board(5, 2, 0) = STATE; board(12, 1, 0) = STATE; board(5, 0, 0) = STATE; board(5, 2, 7) = STATE; log(6, 0, 8); saw()
            board(5, 2, 0) = STATE
            """);
        say("12: of a THICKNESS that is not sawn, too", "log(6, 0, 8); rule(6, 0); board(5, 1, 1) = 11; worth(5, 1) = 864; opening(-1, 0) = 0");
    }

    private static void gradedNumbers() {
        d.part("13: COLUMNS a .. b of 0 .. 11; a above b is BAD");
        Script s = new Script(d).run("log(6, 0, 1)");
        for (int a = -1; a <= 12; a++) {
            for (int b = -1; b <= 12; b++) {
                s.due("graded(5, 1, " + a + ", " + b + ", 0)", a >= 0 && b <= 11 && a <= b ? 0 : -2);
            }
        }
        d.part("13: slices: 8 s and t; s above t is BAD; SLICES 0 .. LONG - 1");
        for (int length : new int[] {1, 2, 5, 7, 8}) {
            Script sliced = new Script(d).run("log(6, 0, " + length + ")");
            for (int slices = -9; slices <= 72; slices++) {
                boolean is = slices >= 0 && slices <= 63 && slices / 8 <= slices % 8 && slices % 8 < length;
                sliced.due("graded(5, 1, 5, 6, " + slices + ")", is ? 0 : -2);
            }
            sliced.run("graded(5, 1, 5, 6, MIN) = BAD; graded(5, 1, 5, 6, MAX) = BAD; graded(5, 1, MIN, 6, 0) = BAD; graded(5, 1, 5, MAX, 0) = BAD");
        }
        say("13: s and t are the first and the last of them", """
            log(6, 0, 8); fault(0, 0, 3, 1); graded(5, 1, 6, 6, 2) = 0; graded(5, 1, 6, 6, 3) = 2; graded(5, 1, 6, 6, 27) = 3
            graded(5, 1, 6, 6, 28) = 2
            graded(5, 1, 6, 6, 36) = 0; graded(5, 1, 6, 6, 39) = 0; graded(5, 1, 6, 6, 31) = 2; graded(5, 1, 6, 6, 18) = 0; graded(5, 1, 6, 6, 19) = 2
            """);
        say("13: STATE ahead of BAD", "graded(5, 1, 5, 6, 0) = STATE; graded(12, 0, 6, 5, 64) = STATE");
        say("13: BAD ahead of NONE", """
            log(6, 0, 8); graded(0, 1, 0, 3, 0) = NONE; graded(0, 1, 3, 0, 0) = BAD; graded(0, 1, -1, 3, 0) = BAD; graded(0, 1, 8, 12, 0) = BAD
            graded(0, 1, 0, 3, 8) = BAD; graded(0, 1, 0, 3, 64) = BAD; graded(0, 1, 0, 3, -1) = BAD
            """);
    }

    private static void gradedWood() {
        d.part("13: NONE: it isn't all WOOD");
        Script s = new Script(d).run("log(6, 0, 1)");
        for (int y = 0; y < 12; y++) {
            int first = 6 - COLUMNS[y] / 2, last = 11 - first;
            s.due("graded(" + y + ", 1, " + first + ", " + last + ", 0)", 0);
            if (first > 0) {
                s.due("graded(" + y + ", 1, " + (first - 1) + ", " + last + ", 0)", -1);
                s.due("graded(" + y + ", 1, " + (first - 1) + ", " + (first - 1) + ", 0)", -1);
                s.due("graded(" + y + ", 1, " + first + ", " + (last + 1) + ", 0)", -1);
                s.due("graded(" + y + ", 1, " + (last + 1) + ", " + (last + 1) + ", 0)", -1);
            }
        }
        say("13: all of its rows, all of its slices", """
            log(6, 4, 4); graded(4, 4, 0, 11, 0) = 0; graded(3, 4, 0, 11, 0) = NONE; graded(5, 4, 0, 11, 0) = NONE; graded(5, 4, 1, 10, 0) = 0
            graded(5, 2, 0, 11, 1) = NONE; graded(5, 2, 1, 10, 1) = 0; graded(5, 2, 1, 10, 2) = NONE; graded(5, 2, 2, 9, 2) = 0
            graded(5, 2, 2, 9, 3) = NONE
            graded(5, 2, 3, 8, 3) = 0; graded(5, 2, 3, 8, 27) = 0; graded(5, 2, 2, 8, 27) = NONE; graded(5, 2, 3, 9, 27) = NONE
            """);
    }

    private static void gradeEdges() {
        // A knot of angle 0, size 1, slice 0: rows 5, 6 of columns 6 .. 11 hurt 1 there.
        say("2: GRADE 0: WORSE is 0", """
            log(6, 0, 8); fault(0, 0, 0, 1); graded(5, 2, 0, 5, 7) = 0; graded(5, 2, 6, 11, 15) = 0; graded(4, 2, 6, 6, 0) = 3
            graded(6, 2, 6, 6, 0) = 3; graded(4, 4, 6, 6, 0) = 0
            """);
        say("2: GRADE 1: BETTER is 0, 8 times WORSE at most AREA", """
            log(6, 0, 8); fault(0, 0, 0, 1)
            graded(4, 2, 6, 6, 7) = 1; graded(4, 2, 6, 6, 6) = 2     # 1 of 8, of 7
            graded(4, 2, 6, 7, 7) = 1; graded(4, 2, 5, 7, 4) = 2     # 2 of 16, of 15
            graded(6, 2, 6, 6, 7) = 1; graded(6, 2, 6, 6, 6) = 2     # the upper face is the worse
            graded(5, 2, 0, 6, 7) = 2; graded(6, 1, 0, 6, 7) = 2     # both faces 1 of 56: BETTER is not 0
            """);
        // A rot in columns 5, 6 of rows 5, 6 in slice 7; knots of angles 4, 0 in columns 0 .. 5, 6 .. 11.
        say("2: GRADE 2: a HURT of 9 counts in the PIECE alone", """
            log(6, 0, 8); fault(5, 0, 7, 1); fault(0, 0, 7, 1); fault(0, 4, 7, 1)
            graded(5, 2, 7, 11, 7) = 2; graded(5, 2, 0, 4, 7) = 2; graded(5, 2, 8, 11, 23) = 2; graded(5, 2, 3, 4, 23) = 2   # 5, 5, 4, 2 beside the rot
            graded(5, 2, 6, 11, 7) = 3; graded(5, 2, 0, 5, 7) = 3; graded(5, 2, 0, 11, 7) = 3   # 14 of 48, 14 of 48, 28 of 96: at its edge, in it
            graded(4, 2, 6, 11, 7) = 3; graded(6, 2, 6, 11, 7) = 3; graded(6, 2, 0, 5, 7) = 3; graded(4, 2, 7, 11, 7) = 1   # of one face
            graded(6, 2, 7, 11, 7) = 1; graded(5, 2, 0, 11, 6) = 0
            """, """
            log(6, 0, 8); fault(5, 0, 7, 1); graded(5, 2, 6, 11, 7) = 3; graded(5, 2, 0, 5, 7) = 3; graded(5, 2, 5, 10, 7) = 3   # 9, 9, 18
            graded(6, 1, 6, 11, 7) = 3; graded(5, 1, 0, 5, 7) = 3; graded(7, 1, 0, 11, 7) = 0
            """, """
            log(6, 0, 8); fault(3, 0, 7, 4); graded(5, 2, 0, 11, 7) = 2; graded(5, 2, 0, 2, 7) = 2; graded(5, 2, 9, 11, 7) = 2   # of 3s, that make 9
            log(6, 0, 8); fault(1, 0, 7, 1); fault(3, 2, 7, 4); graded(5, 2, 4, 8, 7) = 2; graded(4, 2, 3, 8, 7) = 2             # 3 3 2 2, 3 3 2 2
            """);
        say("2: GRADE 2: no CELL of the FACES has a HURT of 9; 2 times WORSE at most AREA", """
            log(6, 0, 8); fault(0, 0, 0, 1)
            graded(5, 2, 6, 6, 1) = 2; graded(5, 2, 6, 6, 0) = 3     # 1 of 2, of 1
            graded(5, 2, 4, 7, 0) = 2; graded(5, 2, 5, 7, 0) = 3     # 2 of 4, of 3
            graded(4, 2, 6, 6, 1) = 2; graded(4, 2, 6, 6, 0) = 3     # of one face
            """, """
            log(6, 0, 8); fault(5, 0, 7, 1); graded(5, 2, 0, 11, 7) = 3; graded(5, 2, 0, 11, 6) = 0; graded(4, 2, 0, 11, 7) = 3
            graded(6, 2, 0, 11, 7) = 3
            graded(5, 2, 0, 4, 7) = 0; graded(4, 4, 0, 11, 7) = 0    # between the faces a rot does not count
            """, """
            log(6, 0, 8); fault(4, 0, 5, 1); graded(5, 2, 0, 11, 7) = 2   # 24 of 96, none of them 9
            """);
        say("2: GRADE 3: BETTER at most AREA; 4: all else", """
            log(6, 0, 8); fault(1, 0, 0, 1); graded(5, 2, 6, 6, 1) = 3; graded(5, 2, 6, 6, 0) = 4; graded(5, 2, 5, 6, 0) = 3   # 2 of 2, of 1, of 2
            """, """
            log(6, 0, 8); fault(5, 0, 7, 1); graded(5, 2, 0, 8, 55) = 3; graded(5, 2, 5, 6, 63) = 4    # 18 of 18, of 2
            graded(5, 2, 5, 5, 7) = 4; graded(5, 2, 4, 5, 39) = 4; graded(5, 2, 3, 5, 47) = 3          # 9 of 8, of 8, of 9
            graded(5, 2, 4, 5, 31) = 3; graded(4, 2, 5, 6, 63) = 3                                     # 9 of 10; BETTER is 0
            """, """
            log(6, 0, 8); fault(3, 0, 0, 4); graded(4, 2, 0, 11, 5) = 3; graded(6, 2, 0, 11, 5) = 3    # 0 and 216 of 72: the lower, the upper
            graded(5, 2, 0, 11, 5) = 4; graded(5, 1, 0, 11, 5) = 4; graded(4, 4, 0, 11, 5) = 0
            """, """
            log(6, 0, 8); fault(3, 0, 0, 1); fault(0, 2, 0, 4); fault(0, 6, 0, 4); graded(6, 2, 4, 7, 0) = 3; graded(4, 2, 4, 7, 0) = 3   # 12 and 4, 4 and 12 of 4
            fault(1, 2, 0, 1); fault(1, 6, 0, 1); graded(6, 2, 4, 7, 0) = 4; graded(4, 2, 4, 7, 0) = 4   # 12 and 8, 8 and 12 of 4
            """);
    }

    private static void worthNumbers() {
        say("14: NO: no LOG, a number", """
            worth(5, 2) = NO; worth(12, 5) = NO; log(6, 0, 8); worth(-1, 1) = NO; worth(0, 1) = 288; worth(11, 1) = 288; worth(12, 1) = NO
            worth(9, 3) = 864; worth(10, 3) = NO; worth(0, 0) = NO; worth(8, 4) = 1152; worth(9, 4) = NO; worth(0, 5) = NO; saw(); worth(5, 2) = NO
            """);
    }

    private static void thicknesses() {
        say("2: THICK: its bits 1 .. 4 tell which THICKNESSES are sawn", """
            log(6, 0, 1); rule(0, 0); rule(6, 2); opening(-1, 0) = 12; opening(0, 1) = 1; opening(11, 1) = 1; opening(11, 0) = 11
            rule(6, 4); opening(-1, 0) = 6; opening(0, 1) = 2; opening(0, 0) = 0; opening(5, 0) = 10
            rule(6, 8); opening(-1, 0) = 3; opening(0, 1) = 3; opening(0, 0) = 1; opening(1, 0) = 4; opening(2, 0) = 7
            rule(6, 16); opening(-1, 0) = 3; opening(0, 1) = 4; opening(0, 0) = 0; opening(1, 0) = 4; opening(2, 0) = 8
            rule(6, 0); opening(-1, 0) = 0; best(0) = 0; best(-1) = 0; bestTurn() = 0
            """);
        say("2: THICK 12 at first: 2 and 3, not 1, not 4", "log(6, 0, 1); rule(0, 0); opening(0, 1) = 2; rule(6, 12); rule(0, 1); opening(0, 1) = 3");
        say("2: BOARDS that have a BEST PIECE: no others", """
            log(2, 0, 1); rule(0, 0); rule(6, 2); opening(-1, 0) = 4; opening(0, 0) = 4; opening(3, 0) = 7
            rule(2, 0); opening(-1, 0) = 0; opening(0, 0) = -12; rule(2, 9); fault(5, 0, 0, 2); opening(-1, 0) = 0; best(0) = 0
            """, """
            log(2, 0, 1); rule(0, 0); rule(6, 2); rule(2, 1); rule(3, 0); rule(4, 0); rule(5, 0); fault(0, 0, 0, 3)
            worth(4, 1) = 1; board(4, 1, 0) = 5; board(4, 1, 1) = 5; opening(-1, 0) = 4; opening(0, 0) = 4; best(0) = 6   # WORTH 1 is something
            """);
    }

    private static void kerf() {
        // Boards of four rows are worth 16, 32, 40, 40, 48, 40, 40, 32, 16 by rows.
        say("2: each begins below the one ahead by KERF rows at least", """
            log(6, 0, 1); rule(2, 1); rule(6, 16); rule(0, 0); best(0) = 80; opening(-1, 0) = 3; opening(1, 0) = 4
            rule(0, 1); best(0) = 72; opening(-1, 0) = 2; opening(0, 0) = 1; opening(1, 0) = 6
            rule(0, 2); best(0) = 64; opening(-1, 0) = 2; opening(0, 0) = 1; opening(1, 0) = 7
            """, """
            log(6, 0, 1); rule(2, 1); rule(6, 2); rule(0, 0); opening(-1, 0) = 12; best(0) = 112
            rule(0, 1); opening(-1, 0) = 6; best(0) = 56; opening(0, 0) = 0; opening(5, 0) = 10
            rule(0, 2); opening(-1, 0) = 4; best(0) = 40; opening(0, 0) = 1; opening(1, 0) = 4; opening(2, 0) = 7; opening(3, 0) = 10
            """);
        say("2: no KERF is asked above the first, below the last", """
            log(6, 0, 1); rule(6, 2); rule(0, 1); opening(0, 0) = 0; turn(2); opening(0, 0) = 0; rule(6, 16); rule(0, 0)
            opening(2, 0) = 8
            """);
    }

    private static void openingTies() {
        say("2: BEST: at the first row from which two go on otherwise: that with the thicker BOARD there", """
            log(6, 0, 1); rule(0, 0); rule(6, 30); best(0) = 1008; opening(-1, 0) = 7
            opening(0, 1) = 1; opening(1, 1) = 1; opening(2, 0) = 2; opening(2, 1) = 2; opening(3, 0) = 4; opening(3, 1) = 4
            opening(4, 0) = 8; opening(4, 1) = 2
            opening(5, 0) = 10; opening(5, 1) = 1; opening(6, 0) = 11; opening(6, 1) = 1
            rule(6, 14); opening(3, 1) = 3; opening(4, 0) = 7; opening(4, 1) = 1; rule(6, 6); opening(3, 1) = 2; opening(4, 1) = 2
            """);
        say("2: one ahead of none", """
            log(2, 0, 1); rule(6, 2); rule(0, 2); best(0) = 36; opening(-1, 0) = 2; opening(0, 0) = 4; opening(1, 0) = 7   # 2 and 2; 4 of row 5 or 6 alone
            rule(0, 1); opening(0, 0) = 4; opening(1, 0) = 6   # 2 and 4; 4 and 2
            """, """
            log(6, 0, 1); rule(6, 16); rule(0, 1); opening(0, 0) = 1; opening(1, 0) = 6   # 1 and 6; 2 and 7
            """);
        say("2: of most WORTH together, though the first is worth less", """
            log(2, 0, 1); rule(0, 0); rule(6, 6); opening(0, 0) = 4; opening(0, 1) = 1; opening(1, 0) = 5; opening(1, 1) = 2
            opening(2, 0) = 7; opening(2, 1) = 1
            """);
    }

    private static void openingNumbers() {
        say("15: as the LOG lies, not by the BEST TURN", """
            log(6, 0, 8); tape "k022 h231 o061"; text() = 3; bestTurn() = 1; opening(-1, 0) = 3; opening(0, 0) = 1; opening(2, 1) = 2
            turn(1); opening(-1, 0) = 2; opening(0, 0) = 2; opening(1, 0) = 7; opening(1, 1) = 3; turn(2); opening(-1, 0) = 3
            best(-1) = 3240; opening(-1, 0) = 3; opening(0, 0) = 1; turn(0); bestTurn() = 1; opening(1, 0) = 5; saw() = 3
            """);
        say("15: how many BOARDS (k -1; a what that is none is refused, too)", """
            log(6, 0, 8); opening(-1, 0) = 3; opening(-1, 2) = 3; opening(-1, 3) = BAD; opening(-1, -1) = BAD; opening(-1, MIN) = BAD
            opening(-1, MAX) = BAD
            """);
        say("15: -12: no such BOARD", """
            log(6, 0, 8); opening(0, 0) = 1; opening(2, 0) = 9; opening(3, 0) = -12; opening(-2, 0) = -12; opening(MIN, 0) = -12
            opening(MAX, 0) = -12
            rule(6, 0); opening(-1, 0) = 0; opening(0, 0) = -12
            """);
        say("15: what (0 .. 2); BAD ahead of -12", """
            log(6, 0, 8); opening(0, -1) = BAD; opening(0, 0) = 1; opening(0, 1) = 3; opening(0, 2) = 0; opening(0, 3) = BAD
            opening(3, 3) = BAD; opening(-2, -1) = BAD
            """);
        say("15: STATE ahead of BAD, of -12", """
            opening(-1, 0) = STATE; opening(0, 0) = STATE; opening(-1, 3) = STATE; opening(99, 0) = STATE; log(6, 0, 1); saw()
            opening(-1, 0) = STATE
            """);
    }

    private static void bestNumbers() {
        say("16: NO: no LOG, a number", """
            best(0) = NO; best(-1) = NO; best(4) = NO; log(6, 0, 1); best(-2) = NO; best(-1) = 684; best(0) = 684; best(3) = 684
            best(4) = NO; best(MIN) = NO; best(MAX) = NO; saw(); best(0) = NO
            """);
        say("16: by a TURN (NONE: the BEST TURN)", """
            log(6, 0, 8); tape "k022 h231 o061"; text() = 3; best(0) = 2160; best(1) = 3240; best(2) = 2160; best(3) = 3240
            best(-1) = 3240; count(4) = 0
            turn(3); best(0) = 2160; best(1) = 3240; best(-1) = 3240; count(4) = 3
            """);
        say("17: BEST TURN: of several the least; STATE", """
            bestTurn() = STATE; log(6, 0, 8); bestTurn() = 0; turn(2); bestTurn() = 0; tape "k022 h231 o061"; text() = 3; bestTurn() = 1
            turn(3); bestTurn() = 1; count(4) = 3
            rule(6, 0); bestTurn() = 0; rule(6, 12); heal(1); heal(0); bestTurn() = 0; saw(); bestTurn() = STATE
            """);
    }
}
