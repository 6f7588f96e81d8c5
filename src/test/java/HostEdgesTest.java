/** The edges that the document names of the image, the counts, the sheets: promises 27 to 32. */
public final class HostEdgesTest {
    private static final Due d = new Due();
    // With twelve zeros a sheet tells the opening of this.
    private static final String ZEROS = "log(6, 0, 4); rule(0, 0); rule(6, 2)\n";

    public static void main(String[] args) {
        manyCalls();
        imageNone();
        imageKeeps();
        imageStays();
        counts();
        sheetNumbers();
        sheetSizes();
        sheetAnew();
        putNumbers();
        putBits();
        copyNumbers();
        copyPlaces();
        copyNothing();
        copyInItself();
        d.end("HostEdgesTest");
    }

    private static void say(String words, String... texts) {
        Script.sentence(d, words, texts);
    }

    private static void manyCalls() {
        d.part("An object is used for at most 512 calls: the last is answered as the first");
        Script s = new Script(d).run("log(6, 1, 8) = 768; tape \"k022 h231 o061\" = 14; text() = 3; image() = 3");
        long worth = s.ask("best(-1)");
        for (int i = 8; i < 510; i++) {
            s.ask(i % 2 == 0 ? "chance(" + i + ", 8, 2000, 0)" : "drawn(" + i + ", 8)");
        }
        s.due("best(-1)", worth);
        s.due("back()", 3);
    }

    private static void imageNone() {
        say("28: STATE: there is none", "back() = STATE; log(6, 0, 8); fault(0, 0, 0, 1); back() = STATE; count(0) = 1; image() = 1; back() = 1");
        say("27: of nothing, too: no LOG, nothing stacked, no ORDERS", """
            image() = 0; log(6, 0, 8); fault(0, 0, 0, 1); turn(1); order(1, 0, 1, 1); rule(0, 2); back() = 0
            count(0) = 0; count(3) = 0; count(4) = 0; count(2) = 0; count(1) = 0; turn(0) = STATE; rule(0, 1) = 1; back() = 0
            """);
        say("27: how many FAULTS: eight", """
            log(6, 0, 8); tape "k111k222k333k444l111l222l333o111"; text() = 8; image() = 8; heal(7) = 7; heal(0) = 6; back() = 8
            fault(0, 0, 0, 1) = FULL; told(0, 0) = 0; told(7, 0) = 5
            """);
    }

    private static void imageKeeps() {
        say("27: AN IMAGE keeps the LOG", """
            log(6, 1, 7); image() = 0; log(2, 4, 8); back() = 0; count(3) = 7; cell(0, 5, 3, 0) = 1; cell(0, 5, 4, 0) = 0
            cell(1, 5, 6, 0) = 1; cell(5, 5, 7, 0) = BAD
            """,
            "log(6, 1, 7); image() = 0; saw(); back() = 0; count(3) = 7; count(1) = 0", "image() = 0; log(6, 1, 7); back(); best(0) = NO");
        say("27: its FAULTS, in their order", """
            log(6, 0, 8); tape "k123 o234 t341"; text() = 3; image() = 3; heal(0); fault(4, 4, 4, 4); back() = 3; told(0, 0) = 0
            told(0, 1) = 1; told(0, 2) = 2; told(0, 3) = 3
            told(1, 0) = 5; told(2, 0) = 6; told(2, 3) = 1; told(3, 0) = BAD; heal(1) = 2; back() = 3; told(1, 0) = 5; log(2, 0, 1)
            back() = 3; told(1, 0) = 5
            """, "log(6, 0, 8); image() = 0; fault(5, 0, 0, 4); cell(5, 5, 0, 1) = 9; back() = 0; cell(5, 5, 0, 1) = 0; cell(5, 5, 0, 2) = NONE; count(6) = 0");
        say("27: its TURN", """
            log(6, 0, 1); fault(0, 0, 0, 1); turn(2); image() = 1; turn(3) = 2; back() = 1; count(4) = 2; cell(0, 5, 0, 1) = 1
            turn(0) = 2; back(); turn(0) = 2
            """);
        d.part("27: each RULE");
        for (int what = 0; what < 7; what++) {
            int[] first = {1, 1, 9, 6, 3, 1, 12};
            new Script(d).run("image() = 0; rule(" + what + ", 0) = " + first[what] + "; back() = 0; rule(" + what + ", 0) = " + first[what]
                + "; image() = 0; rule(" + what + ", " + first[what] + ") = 0; back() = 0; rule(" + what + ", 0) = 0");
        }
        say("27: THE STACK", ZEROS + """
            saw() = 12; image() = 0; order(1, 0, 12, 4); serve() = 1; count(1) = 11; back(); count(1) = 12; stack(4, 1) = 12; stack(11, 1) = 4
            log(2, 0, 1); saw() = 4; back(); count(1) = 12; stack(12, 0) = -12
            """, ZEROS + "image() = 0; saw() = 12; back() = 0; count(1) = 0; saw() = 12; stack(0, 1) = 4");
        say("27: ORDERS", ZEROS + """
            saw(); order(1, 0, 8, 4); order(2, 0, 1, 1); image(); serve() = 1; order(3, 0, 1, 1) = 1; back(); count(2) = 2; met(0) = 1
            met(1) = 10; serve() = 1; stack(0, 1) = 4; stack(1, 1) = 10
            """,
            "image(); order(1, 0, 1, 1) = 0; back(); count(2) = 0; order(1, 0, 1, 1) = 0");
        say("27: each BOARD, each ORDER to the brim", ZEROS + """
            saw() = 12; log(2, 0, 1); saw() = 4; order(4, 3, 1, 1); order(4, 3, 1, 1); order(4, 3, 1, 1); order(4, 3, 1, 1)
            order(4, 3, 1, 1); order(1, 0, 12, 4) = 5; image() = 0; serve() = 1; order(3, 0, 8, 8) = 5; met(0) = 0; back() = 0
            count(2) = 6; met(0) = 32; met(1) = 4
            stack(15, 0) = 1; stack(15, 1) = 2; stack(15, 2) = 1; stack(15, 3) = 0; stack(12, 1) = 2; stack(11, 2) = 4
            """, ZEROS + """
            saw() = 12; log(2, 0, 1); saw() = 4; image(); order(1, 0, 1, 1); order(1, 0, 1, 1); order(1, 0, 1, 1); order(1, 0, 1, 1)
            order(1, 0, 1, 1); order(1, 0, 1, 1); serve() = 6; rule(6, 4); log(6, 0, 2); saw() = 6; stack(15, 0) = 2; back()
            stack(15, 0) = 1; stack(15, 1) = 2; stack(15, 2) = 1; stack(10, 0) = 1; stack(10, 2) = 4; count(2) = 0
            """);
        say("27: not SHEETS", """
            sheet(0, 0, 3); image(); sheet(0, -1, 0); back(); put(0, 0, 1) = -11; sheet(1, 1, 2); back(); put(1, 1, 1) = 1
            put(1, 2, 1) = -12
            """);
        say("27: not THE TAPE", """
            feed(2, 1, 1, 1, 1, 1) = 2; image(); feed(3, 1, 1, 1, 1, 1) = 5; back(); count(5) = 5; log(6, 0, 1); text() = -100; back()
            count(5) = 0
            """);
    }

    private static void imageStays() {
        say("28: as in THE IMAGE, again and again", """
            log(6, 0, 8); fault(0, 0, 0, 1); image() = 1; heal(0); back() = 1; heal(0); rule(0, 2); saw(); back() = 1; count(3) = 8
            rule(0, 1) = 1; back() = 1; back() = 1
            """);
        say("27: another IMAGE takes its place", """
            log(6, 0, 8); image() = 0; fault(0, 0, 0, 1); image() = 1; heal(0); back() = 1; log(2, 0, 1); image() = 0; back() = 0
            count(3) = 1
            """);
        say("28: the one laid back is not the image itself", """
            log(6, 0, 8); fault(0, 0, 0, 1); order(1, 0, 1, 1); image() = 1; back() = 1; fault(1, 0, 0, 1) = 1; order(2, 0, 1, 1) = 1
            turn(3); rule(2, 0); back() = 1
            count(0) = 1; count(2) = 1; count(4) = 0; rule(2, 9) = 9; heal(0) = 0; back() = 1; told(0, 0) = 0
            """);
        say("28: what is sawn is worked out anew", ZEROS + """
            opening(-1, 0) = 12; image(); rule(6, 16); opening(-1, 0) = 3; back(); opening(-1, 0) = 12; best(0) = 4032; log(2, 0, 1)
            best(0) = 108; back(); best(0) = 4032; worth(5, 1) = 432
            """);
    }

    private static void counts() {
        say("29: what (0 .. 6)", "count(-1) = BAD; count(0) = 0; count(6) = 0; count(7) = BAD; count(MIN) = BAD; count(MAX) = BAD");
        say("29: SLICES of the LOG (0: none), its TURN", """
            count(3) = 0; count(4) = 0; log(6, 0, 1); count(3) = 1; turn(3); count(4) = 3; log(6, 0, 8); count(3) = 8; count(4) = 0
            turn(2); saw(); count(3) = 0; count(4) = 0
            """);
        say("29: FAULTS, BOARDS, ORDERS, bytes, each to the brim", ZEROS + """
            saw(); log(2, 0, 1); saw(); log(6, 0, 8); tape "k111k222k333k444l111l222l333o111"; text(); tape "                                        "
            order(1, 0, 1, 1); order(1, 0, 1, 1); order(1, 0, 1, 1); order(1, 0, 1, 1); order(1, 0, 1, 1); order(1, 0, 1, 1)
            count(0) = 8; count(1) = 16; count(2) = 6; count(3) = 8; count(4) = 0; count(5) = 40
            """);
        say("29: CELLS of WOOD that a FAULT is in: each once, of its slices, of wood alone", """
            log(2, 0, 3); fault(0, 0, 1, 1); count(6) = 4; fault(0, 0, 1, 1); count(6) = 4; fault(6, 0, 1, 1); count(6) = 6; turn(3); count(6) = 6
            fault(5, 0, 3, 4); count(6) = 6; fault(5, 0, 2, 4); count(6) = 16; heal(0); heal(0); heal(0); count(6) = 12
            """, "log(6, 0, 8); fault(5, 0, 0, 4); count(6) = 416; log(2, 4, 8); fault(5, 0, 0, 4); count(6) = 40");
    }

    private static void sheetNumbers() {
        say("30: SHEETS 0 .. 3", """
            sheet(-1, 0, 1) = BAD; sheet(0, 0, 1) = 1; sheet(3, 0, 1) = 1; sheet(4, 0, 1) = BAD; sheet(MIN, 0, 1) = BAD
            sheet(MAX, 0, 1) = BAD; put(0, 0, 1) = 1; put(3, 0, 1) = 1; put(1, 0, 1) = -11
            """);
        say("30: of sort 0 longs, 1 ints; or missing (sort -1)", """
            sheet(0, -2, 1) = BAD; sheet(0, -1, 1) = 1; put(0, 0, 1) = -11; sheet(0, 0, 1) = 1; sheet(0, 1, 1) = 1; sheet(0, 2, 1) = BAD
            sheet(0, MIN, 1) = BAD; sheet(0, MAX, 1) = BAD; put(0, 0, 1) = 1
            """);
        say("30: n above 40; -14", """
            sheet(0, 0, 41) = BAD; sheet(0, 0, 40) = 1; put(0, 39, 1) = 1; put(0, 40, 1) = -12; sheet(0, 0, 0) = 1; put(0, 0, 1) = -12
            sheet(0, 0, -1) = -14; sheet(0, 1, 41) = BAD
            sheet(0, 1, -1) = -14; sheet(0, 0, MAX) = BAD; sheet(0, 0, MIN) = -14; sheet(0, 1, 40) = 1; sheet(0, 1, 1) = 1; put(0, 1, 1) = -12
            """);
        say("30: sort -1: n does not matter", """
            sheet(0, 0, 3); sheet(0, -1, 41) = 1; put(0, 0, 1) = -11; sheet(0, 0, 3); sheet(0, -1, -1) = 1; put(0, 0, 1) = -11
            sheet(0, -1, MIN) = 1; sheet(0, -1, MAX) = 1; sheet(0, -1, 0) = 1
            """);
        say("30: BAD (no such SHEET, sort) ahead of -14", """
            sheet(4, 0, -1) = BAD; sheet(-1, 0, -1) = BAD; sheet(0, 2, -1) = BAD; sheet(0, -2, -1) = BAD; sheet(4, -1, -1) = BAD
            """);
        say("30: refused, it stays as it was", """
            sheet(0, 1, 3); sheet(0, 0, 41) = BAD; sheet(0, 0, -1) = -14; sheet(0, 2, 5) = BAD; put(0, 2, 1) = 1; put(0, 3, 1) = -12
            sheet(1, 1, 3); copy(1, 0, 0, 0, 3) = 3
            """);
    }

    private static void sheetSizes() {
        d.part("30: a row of n");
        for (int sort = 0; sort <= 1; sort++) {
            for (int n = 0; n <= 40; n++) {
                Script s = new Script(d).run("sheet(1, " + sort + ", " + n + ") = 1");
                if (n > 0) {
                    s.due("put(1, " + (n - 1) + ", 7)", 1);
                    s.due("put(1, 0, 7)", 1);
                }
                s.due("put(1, " + n + ", 7)", -12);
                s.due("put(1, -1, 7)", -12);
            }
        }
    }

    private static void sheetAnew() {
        say("30: all 0, also where others were", ZEROS + """
            sheet(0, 0, 12); put(0, 0, 1); put(0, 11, 1); tells(0, 0) = 0; sheet(0, 0, 12); tells(0, 0) = NONE
            put(0, 11, 1); sheet(0, -1, 0); sheet(0, 0, 12); tells(0, 0) = NONE; put(0, 11, 1); sheet(0, 0, 3); sheet(0, 0, 12)
            tells(0, 0) = NONE; put(0, 5, 3); sheet(0, 1, 12); tells(0, 0) = NONE
            """);
        d.part("30: all 0, of each SHEET; the others stay");
        for (int sheet = 0; sheet < 4; sheet++) {
            int other = (sheet + 1) % 4, ahead = (sheet + 3) % 4;
            String anew = "sheet(" + sheet + ", 0, 40); ";
            Script s = new Script(d).run(ZEROS + anew + "sheet(" + other + ", 0, 12); sheet(" + ahead + ", 0, 40)");
            for (int i = 0; i < 40; i++) {
                s.ask("put(" + sheet + ", " + i + ", 1)");
                s.ask("put(" + ahead + ", " + i + ", 1)");
            }
            // Twelve items each come to the next sheet, which tells them.
            for (int from : new int[] {0, 12, 24, 28}) {
                s.run("copy(" + sheet + ", " + from + ", " + other + ", 0, 12) = 12; tells(" + other + ", 0) = 0");
            }
            s.run(anew);
            for (int from : new int[] {0, 12, 24, 28}) {
                s.run("copy(" + sheet + ", " + from + ", " + other + ", 0, 12) = 12; tells(" + other + ", 0) = NONE");
                for (int at = 0; at < 12; at++) {
                    s.run("copy(" + ahead + ", " + (from + at) + ", " + other + ", " + at + ", 1) = 1; tells(" + other + ", 0) = " + at);
                    s.run("put(" + other + ", " + at + ", 0)");
                }
            }
        }
        say("30: each SHEET is a row of its own", ZEROS + """
            sheet(0, 0, 40); sheet(1, 1, 12); sheet(2, 0, 40); sheet(3, 0, 12); put(0, 39, 1); put(2, 0, 1); put(2, 39, 1)
            tells(1, 0) = NONE; tells(3, 0) = NONE
            put(1, 11, 1); put(3, 0, 1); tells(1, 0) = 11; tells(3, 0) = 0; sheet(2, 0, 12); sheet(0, 0, 12); tells(1, 0) = 11
            tells(3, 0) = 0; tells(2, 0) = NONE; tells(0, 0) = NONE
            """);
    }

    private static void putNumbers() {
        say("31: BAD: no such SHEET; -11; -12, in this order", """
            put(-1, 0, 1) = BAD; put(4, 0, 1) = BAD; put(4, -1, 1) = BAD; put(0, 0, 1) = -11; put(0, -1, 1) = -11; put(0, 40, 1) = -11
            put(3, 0, 1) = -11
            sheet(0, 0, 3); put(0, -1, 1) = -12; put(0, 0, 1) = 1; put(0, 2, 1) = 1; put(0, 3, 1) = -12; put(0, MIN, 1) = -12
            put(0, MAX, 1) = -12; put(MIN, 0, 1) = BAD; put(MAX, 0, 1) = BAD
            """);
        say("31: Item i becomes v", ZEROS + """
            sheet(0, 0, 12); put(0, 11, 1); tells(0, 0) = 11; put(0, 0, 1); tells(0, 0) = 0; put(0, 0, 0); tells(0, 0) = 11
            put(0, 11, 0); tells(0, 0) = NONE; put(0, 12, 1) = -12; put(0, -1, 1) = -12; tells(0, 0) = NONE
            """);
    }

    private static void putBits() {
        say("31: of ints its lowest 32 bits", ZEROS + """
            sheet(0, 1, 12); put(0, 3, 4294967296) = 1; tells(0, 0) = NONE; put(0, 3, -4294967296) = 1; tells(0, 0) = NONE
            put(0, 3, 4294967295); tells(0, 0) = 3
            put(0, 3, -9223372036854775808); tells(0, 0) = NONE; put(0, 3, 2147483648); tells(0, 0) = 3; put(0, 3, 4294967297); tells(0, 0) = 3
            """);
        say("31: of longs all", ZEROS + """
            sheet(0, 0, 12); put(0, 3, 4294967296) = 1; tells(0, 0) = 3; put(0, 3, -9223372036854775808); tells(0, 0) = 3; put(0, 3, 0)
            tells(0, 0) = NONE
            put(0, 3, 9223372036854775807); tells(0, 0) = 3
            """);
        say("31: a GRADE with bits above", """
            log(2, 0, 8); rule(1, 0); rule(0, 2); rule(6, 4); rule(4, 6); fault(5, 0, 7, 1); opening(0, 2) = 3; sheet(0, 1, 1)
            put(0, 0, 8589934595); tells(0, 0) = NONE; put(0, 0, -4294967293); tells(0, 0) = NONE; sheet(0, 0, 1); put(0, 0, 8589934595)
            tells(0, 0) = 0; put(0, 0, 3); tells(0, 0) = NONE
            """);
    }

    private static void copyNumbers() {
        say("32: BAD: no such SHEET", """
            copy(-1, 0, 0, 0, 0) = BAD; copy(4, 0, 0, 0, 0) = BAD; copy(0, 0, -1, 0, 0) = BAD; copy(0, 0, 4, 0, 0) = BAD
            copy(MIN, 0, 0, 0, 0) = BAD; copy(0, 0, MAX, 0, 0) = BAD; copy(4, -1, 4, -1, -1) = BAD
            """);
        say("32: -11, of either", """
            copy(0, 0, 3, 0, 0) = -11; sheet(0, 0, 3); copy(0, 0, 3, 0, 0) = -11; copy(3, 0, 0, 0, 0) = -11; copy(3, 0, 3, 0, 0) = -11
            copy(3, -1, 0, -1, -1) = -11; copy(0, -1, 3, 9, 9) = -11; copy(0, 0, 0, 0, 0) = 0
            """);
        say("32: -13: they are of unlike sorts, ahead of -12", """
            sheet(0, 0, 3); sheet(1, 1, 3); copy(0, 0, 1, 0, 0) = -13; copy(1, 0, 0, 0, 3) = -13; copy(0, 0, 1, 0, -1) = -13
            copy(0, 4, 1, 0, 1) = -13; sheet(1, 0, 3); copy(0, 0, 1, 0, 3) = 3; sheet(0, 1, 3); copy(1, 0, 0, 0, 3) = -13; sheet(1, 1, 3)
            copy(1, 0, 0, 0, 3) = 3
            """);
        say("32: -12 (also with n below 0)", """
            sheet(0, 0, 3); sheet(1, 0, 3); copy(0, 0, 1, 0, -1) = -12; copy(0, 1, 1, 1, -1) = -12; copy(0, 0, 1, 0, MIN) = -12
            copy(0, 3, 1, 3, MIN) = -12; copy(0, 0, 1, 0, 0) = 0
            """);
    }

    private static void copyPlaces() {
        d.part("32: -12: a place outside");
        Script s = new Script(d).run("sheet(0, 0, 3); sheet(1, 0, 5)");
        for (int n = -1; n <= 4; n++) {
            for (int i = -1; i <= 4; i++) {
                boolean can = n >= 0 && i >= 0 && i + n <= 3;
                s.due("copy(0, " + i + ", 1, 0, " + n + ")", can ? n : -12);
                s.due("copy(1, 0, 0, " + i + ", " + n + ")", can ? n : -12);
                s.due("copy(0, " + i + ", 0, " + i + ", " + n + ")", can ? n : -12);
            }
        }
        s.run("""
            copy(0, MAX, 1, 0, 1) = -12; copy(0, 0, 1, MAX, 1) = -12; copy(0, 0, 1, 0, MAX) = -12; copy(0, MAX, 1, MAX, MAX) = -12
            copy(0, 1, 1, 1, MAX) = -12; copy(0, MIN, 1, 0, 0) = -12; copy(0, 0, 1, MIN, MIN) = -12
            """);
        d.part("32: the last item of forty");
        new Script(d).run("""
            sheet(0, 0, 40); sheet(1, 0, 40); copy(0, 0, 1, 0, 40) = 40; copy(0, 39, 1, 39, 1) = 1; copy(0, 40, 1, 0, 1) = -12
            copy(0, 0, 1, 0, 41) = -12; copy(0, 1, 1, 0, 40) = -12; copy(0, 0, 1, 1, 40) = -12; copy(0, 1, 1, 0, 39) = 39
            """);
        say("32: n numbers, from item i on, come to item j on", ZEROS + """
            sheet(0, 0, 12); sheet(1, 0, 12); put(0, 4, 1); put(0, 5, 1); put(0, 6, 1); put(0, 7, 1)
            copy(0, 5, 1, 9, 2) = 2; tells(1, 0) = 9; put(1, 9, 0); tells(1, 0) = 10; put(1, 10, 0); tells(1, 0) = NONE   # not one ahead, not one behind
            copy(0, 3, 1, 0, 2) = 2; tells(1, 0) = 1; put(1, 1, 0); tells(1, 0) = NONE; copy(0, 4, 1, 11, 1) = 1; tells(1, 0) = 11
            copy(0, 0, 1, 8, 4) = 4; tells(1, 0) = NONE
            tells(0, 0) = 4; copy(0, 4, 1, 0, 0) = 0; tells(1, 0) = NONE
            """);
    }

    private static void copyNothing() {
        say("32: -12: none of them comes, also of those that have a place", ZEROS + """
            sheet(0, 0, 12); sheet(1, 0, 12); put(0, 11, 1); put(0, 0, 1); copy(0, 11, 1, 0, 2) = -12; copy(0, 0, 1, 11, 2) = -12
            copy(0, 11, 1, 11, 2) = -12; copy(0, 0, 1, 0, 13) = -12; tells(1, 0) = NONE; copy(0, 0, 1, 11, 1) = 1; tells(1, 0) = 11
            """);
        say("32: they stay in the one", ZEROS + """
            sheet(0, 0, 12); sheet(1, 0, 12); put(0, 4, 1); copy(0, 0, 1, 0, 12) = 12; tells(0, 0) = 4; tells(1, 0) = 4
            put(0, 4, 0); tells(0, 0) = NONE; tells(1, 0) = 4
            """);
    }

    private static void copyInItself() {
        say("32: as they were: on in itself", ZEROS + """
            sheet(0, 1, 12); put(0, 0, 1); copy(0, 0, 0, 1, 3) = 3; tells(0, 0) = 0; put(0, 0, 0); tells(0, 0) = 1; put(0, 1, 0); tells(0, 0) = NONE
            """);
        say("32: as they were: back in itself", ZEROS + """
            sheet(0, 1, 12); put(0, 3, 1); copy(0, 1, 0, 0, 3) = 3; tells(0, 0) = 2; put(0, 2, 0); tells(0, 0) = 3; put(0, 3, 0); tells(0, 0) = NONE
            """);
    }
}
