/** The edges that the document names of the log, its faults, the tape, the turn, the rules: section 1, promises 1 to 11. */
public final class LogEdgesTest {
    private static final Due d = new Due();
    // Wood cells of a slice by its radius, and those of a rot by twice its size: 4, 12, 32 ..
    private static final int[] CELLS = {0, 4, 12, 32, 52, 80, 112};

    public static void main(String[] args) {
        newObject();
        logNumbers();
        radius();
        wood();
        anotherLog();
        feedNumbers();
        feedRoom();
        feedOrder();
        textState();
        textBytes();
        textEnds();
        textRoom();
        faultNumbers();
        faultRoom();
        knots();
        shakes();
        ringsAndRots();
        lasts();
        hurts();
        heal();
        told();
        toldOfEach();
        taken();
        takenOfASlice();
        turns();
        rules();
        cells();
        d.end("LogEdgesTest");
    }

    private static void say(String words, String... texts) {
        Script.sentence(d, words, texts);
    }

    private static void newObject() {
        say("1: No LOG", "count(0) = 0; count(3) = 0; count(4) = 0; count(6) = 0; turn(0) = STATE; best(-1) = NO; heal(0) = BAD");
        say("1: nothing is stacked, no ORDERS", """
            stack(-1, 0) = 0; stack(0, 0) = -12; count(1) = 0; count(2) = 0; met(0) = 0; met(1) = 0; serve() = 0
            order(1, 0, 1, 1) = 0
            """);
        say("1: the tape is empty, the sheets are missing, there is no image", """
            count(5) = 0; put(0, 0, 0) = -11; put(1, 0, 0) = -11; put(2, 0, 0) = -11; put(3, 0, 0) = -11; back() = STATE
            feed(5, 0, 0, 0, 0, 0) = 5
            """);
        say("2: RULES: KERF (1 at first), SAVE (1), PRICES (9, 6, 3, 1), THICK (12 at first)",
            "rule(0, 0) = 1; rule(1, 0) = 1; rule(2, 0) = 9; rule(3, 0) = 6; rule(4, 0) = 3; rule(5, 0) = 1; rule(6, 0) = 12");
        say("1: TURN 0 at first", "log(2, 0, 1); turn(1) = 0");
    }

    private static void logNumbers() {
        say("2: RADIUS (2 .. 6)", """
            log(1, 0, 1) = BAD; log(2, 0, 1) = 12; log(6, 0, 1) = 112; log(7, 0, 1) = BAD; log(0, 0, 1) = BAD; log(-2, 0, 1) = BAD
            log(MIN, 0, 1) = BAD; log(MAX, 0, 1) = BAD
            """);
        say("2: TAPER (0 .. 4)", """
            log(6, -1, 8) = BAD; log(6, 0, 8) = 896; log(6, 4, 8) = 300; log(6, 5, 8) = BAD; log(6, MIN, 8) = BAD; log(6, MAX, 8) = BAD
            """);
        say("2: LONG 1 .. 8", """
            log(6, 0, 0) = BAD; log(6, 0, 1) = 112; log(6, 0, 8) = 896; log(6, 0, 9) = BAD; log(6, 0, -1) = BAD
            log(6, 0, MIN) = BAD; log(6, 0, MAX) = BAD
            """);
        say("2: BAD changes nothing", """
            log(6, 0, 0) = BAD; count(3) = 0; turn(0) = STATE
            log(5, 0, 3) = 240; fault(0, 0, 0, 1); turn(2); log(6, 0, 9) = BAD; log(1, 0, 8) = BAD; log(6, 5, 8) = BAD
            count(3) = 3; count(0) = 1; count(4) = 2; cell(0, 5, 0, 0) = 0; cell(1, 5, 0, 0) = 1
            """);
    }

    private static void radius() {
        d.part("1: RADIUS less a quarter (cut) of i times TAPER, 1 at least");
        for (int radius = 2; radius <= 6; radius++) {
            for (int taper = 0; taper <= 4; taper++) {
                Script s = new Script(d);
                int wood = 0;
                for (int i = 0; i < 8; i++) {
                    int less = 0;
                    while (4 * (less + 1) <= i * taper) {
                        less++;
                    }
                    wood += CELLS[radius - less < 1 ? 1 : radius - less];
                    s.due("log(" + radius + ", " + taper + ", " + (i + 1) + ")", wood);
                }
            }
        }
        say("1: cut: three quarters are none, four are one, seven are one", """
            log(6, 3, 4) = 356   # 0, 3, 6, 9 quarters: 112 + 112 + 80 + 52
            log(6, 1, 4) = 448; log(6, 1, 5) = 528; log(6, 1, 8) = 768
            """);
        say("1: 1 at least, also where more than all would be taken", "log(2, 4, 2) = 16; log(2, 4, 3) = 20; log(2, 4, 8) = 40; log(6, 4, 6) = 292");
    }

    private static void wood() {
        say("1: WOOD: at most the square of twice the radius: the last cell in and the first out", """
            log(6, 0, 1); cell(11, 7, 0, 0) = 1; cell(11, 8, 0, 0) = 0; cell(10, 9, 0, 0) = 1; cell(10, 10, 0, 0) = 0  # 130, 146; 130, 162
            log(5, 0, 1); cell(10, 7, 0, 0) = 1; cell(10, 8, 0, 0) = 0; cell(9, 9, 0, 0) = 1; cell(11, 5, 0, 0) = 0    # 90, 106; 98; 122
            log(4, 0, 1); cell(9, 7, 0, 0) = 1; cell(9, 8, 0, 0) = 0; cell(8, 8, 0, 0) = 1; cell(10, 5, 0, 0) = 0      # 58, 74; 50; 82
            log(3, 0, 1); cell(8, 7, 0, 0) = 1; cell(8, 8, 0, 0) = 0; cell(9, 5, 0, 0) = 0                             # 34, 50; 50
            log(2, 0, 1); cell(7, 6, 0, 0) = 1; cell(7, 7, 0, 0) = 0; cell(8, 5, 0, 0) = 0                             # 10, 18; 26
            log(2, 4, 2); cell(6, 6, 1, 0) = 1; cell(7, 6, 1, 0) = 0                                                   # 2, 10
            """);
        say("1: u of x is 2 x - 11: the four corners are as far", """
            log(6, 0, 1); cell(0, 0, 0, 0) = 0; cell(11, 0, 0, 0) = 0; cell(0, 11, 0, 0) = 0; cell(11, 11, 0, 0) = 0
            cell(0, 4, 0, 0) = 1; cell(0, 3, 0, 0) = 0; cell(4, 0, 0, 0) = 1; cell(3, 0, 0, 0) = 0; cell(7, 11, 0, 0) = 1; cell(8, 11, 0, 0) = 0
            """);
    }

    private static void anotherLog() {
        say("2: A LOG without FAULTS (another one goes), TURN 0", """
            log(6, 0, 8); fault(5, 0, 0, 4); fault(0, 0, 0, 1); turn(3); log(2, 0, 2) = 24
            count(0) = 0; count(4) = 0; count(3) = 2; count(6) = 0; heal(0) = BAD; cell(5, 5, 0, 1) = 0; fault(0, 0, 0, 1) = 0
            """);
        say("2: all else stays by another LOG", """
            log(6, 0, 4); rule(0, 0); rule(6, 2); saw() = 12; order(1, 0, 12, 4); tape "k0"; sheet(0, 0, 3); image()
            log(2, 0, 2); count(1) = 12; count(2) = 1; count(5) = 2; put(0, 2, 1) = 1; rule(0, 0) = 0; rule(6, 2) = 2; met(0) = 1
            back() = 0; count(3) = 0
            """);
    }

    private static void feedNumbers() {
        say("3: n bytes (1 .. 5)", """
            feed(0, 1, 1, 1, 1, 1) = BAD; feed(1, 1, 1, 1, 1, 1) = 1; feed(5, 1, 1, 1, 1, 1) = 6; feed(6, 1, 1, 1, 1, 1) = BAD
            feed(-1, 1, 1, 1, 1, 1) = BAD; feed(MIN, 1, 1, 1, 1, 1) = BAD; feed(MAX, 1, 1, 1, 1, 1) = BAD; count(5) = 6
            """);
        d.part("3: all 0 .. 255, also those that are not asked");
        for (int n = 1; n <= 5; n++) {
            Script s = new Script(d);
            for (int k = 0; k < 5; k++) {
                for (String v : new String[] {"-1", "256", "MIN", "MAX"}) {
                    s.due(feedWith(n, k, v), -2);
                }
            }
            s.due("count(5)", 0);
            for (int k = 0; k < 5; k++) {
                s.due(feedWith(n, k, "0"), (2 * k + 1) * n > 40 ? -4 : (2 * k + 1) * n);
                s.due(feedWith(n, k, "255"), (2 * k + 2) * n > 40 ? -4 : (2 * k + 2) * n);
            }
        }
        say("3: n bytes, a, b, .. come behind the tape: those that are asked, in their order", """
            log(6, 0, 8); feed(1, 107, 49, 50, 51, 52); feed(3, 49, 50, 51, 120, 120); text() = 1; told(0, 1) = 1; told(0, 2) = 2; told(0, 3) = 3
            feed(2, 108, 52, 120, 120, 120); feed(2, 53, 50, 120, 120, 120); text() = 2; told(1, 0) = 1; told(1, 1) = 4; told(1, 2) = 5
            told(1, 3) = 2
            feed(4, 116, 55, 54, 49, 120); text() = 3; told(2, 0) = 6; told(2, 1) = 7; told(2, 2) = 6; told(2, 3) = 1
            feed(5, 32, 111, 49, 48, 52); text() = 4; told(3, 0) = 5; told(3, 1) = 1; told(3, 2) = 0; told(3, 3) = 4
            """);
    }

    private static String feedWith(int n, int place, String v) {
        StringBuilder call = new StringBuilder("feed(" + n);
        for (int k = 0; k < 5; k++) {
            call.append(", ").append(k == place ? v : "32");
        }
        return call.append(")").toString();
    }

    private static void feedRoom() {
        d.part("3: FULL: they have no room (THE TAPE: 40 bytes at most)");
        for (int had = 0; had <= 40; had++) {
            for (int n = 1; n <= 5; n++) {
                Script s = new Script(d);
                for (int i = 0; i < had; i++) {
                    s.ask("feed(1, 32, 0, 0, 0, 0)");
                }
                s.due("feed(" + n + ", 32, 32, 32, 32, 32)", had + n <= 40 ? had + n : -4);
                s.due("count(5)", had + n <= 40 ? had + n : had);
            }
        }
        say("3: FULL: none of them comes", """
            log(6, 0, 8); tape "k111k222k333k444l111l222l333o111 r112"; tape " " = 38; feed(3, 10, 120, 120, 0, 0) = FULL; text() = FULL
            """,
            "log(6, 0, 8); tape \"k111k222k333k444l111l222l333o111      \" = 38; feed(3, 120, 120, 120, 0, 0) = FULL; count(5) = 38; text() = 8");
        say("3: what is taken from the full tape makes room for 40 again",
            """
            log(6, 0, 1); tape "                                        " = 40; feed(1, 0, 0, 0, 0, 0) = FULL; text() = -140
            feed(5, 0, 0, 0, 0, 0) = 5
            """);
    }

    private static void feedOrder() {
        say("3: BAD ahead of FULL", """
            tape "                                        " = 40; feed(1, 0, 0, 0, 0, 0) = FULL; feed(0, 0, 0, 0, 0, 0) = BAD
            feed(6, 0, 0, 0, 0, 0) = BAD
            feed(1, 256, 0, 0, 0, 0) = BAD; feed(1, 0, 0, 0, 0, -1) = BAD; count(5) = 40
            """);
    }

    private static void textState() {
        say("4: STATE (THE TAPE stays)", """
            tape "k011"; text() = STATE; count(5) = 4; log(6, 0, 8); text() = 1; count(5) = 0; told(0, 0) = 0
            """);
        say("4: STATE ahead of the FAULT'S PLACE", """
            text() = STATE; tape "x"; text() = STATE; count(5) = 1; log(6, 0, 8); text() = -100; text() = -100
            """);
        say("4: a log that was sawn is none", "log(6, 0, 8); saw(); tape \"k011\"; text() = STATE; count(5) = 4");
    }

    /** Every byte at every place of an item, and behind it. */
    private static void textBytes() {
        byteAt("4: a letter (k l s h r o t: KINDS 0 .. 6), or a blank (32, 10) ahead", "", "111", "klshrot", " \n", 0);
        byteAt("4: ANGLE (a digit 0 .. 7)", "k", "11", "01234567", "", 1);
        byteAt("4: SLICE (a digit 0 .. 7)", "k1", "1", "01234567", "", 2);
        byteAt("4: SIZE (a digit 1 .. 4)", "k11", "", "1234", "", 3);
        byteAt("4: behind an item a blank, or another one", "k111", "111", "klshrot", " \n", 4);
        say("4: blanks may stand .. not in them", """
            log(6, 0, 8); tape "k 111"; text() = -101; tape "k1 11"; text() = -102; tape "k11 1"; text() = -103
            tape "k\\n111"; text() = -101; tape "k1\\n11"; text() = -102; tape "k11\\n1"; text() = -103; count(0) = 0
            """);
    }

    private static void byteAt(String words, String ahead, String behind, String items, String blanks, int place) {
        d.part(words);
        for (int v = 0; v < 256; v++) {
            Script s = new Script(d).run("log(6, 0, 8)");
            feed(s, ahead);
            s.ask("feed(1, " + v + ", 0, 0, 0, 0)");
            feed(s, behind);
            int want = -100 - place;
            if (items.indexOf(v) >= 0) {
                want = place == 4 ? 2 : 1;
            } else if (blanks.indexOf(v) >= 0) {
                // Behind a blank a letter is due: the digits that follow can't stand.
                want = -100 - place - 1;
            }
            s.due("text()", want);
            s.due("count(5)", 0);
            s.due("count(0)", Math.max(0, want));
            if (want == 1 && place > 0) {
                s.due("told(0, " + place + ")", v - '0');
            } else if (want == 1) {
                s.due("told(0, 0)", "klshrot".indexOf(v));
            }
        }
    }

    private static void feed(Script s, String text) {
        for (int i = 0; i < text.length(); i++) {
            s.ask("feed(1, " + (int) text.charAt(i) + ", 0, 0, 0, 0)");
        }
    }

    private static void textEnds() {
        say("4: one or more: an empty tape ends too early", "log(6, 0, 8); text() = -100; text() = -100; count(0) = 0");
        d.part("4: THE TAPE's size, if it ends too early: blanks alone");
        for (int n = 1; n <= 40; n++) {
            Script s = new Script(d).run("log(6, 0, 8)");
            feed(s, (n % 2 == 0 ? " " : "\n").repeat(n));
            s.due("text()", -100 - n);
            s.due("count(5)", 0);
        }
        say("4: THE TAPE's size, if it ends too early: in an item", """
            log(6, 0, 8); tape "k"; text() = -101; tape "k1"; text() = -102; tape "k11"; text() = -103
            tape "k111k"; text() = -105; tape "k111 l1"; text() = -107; tape "k111\\nl11"; text() = -108; count(0) = 0; count(5) = 0
            """);
        say("4: THE TAPE's size: forty bytes", "log(6, 0, 8); tape \"k111k111k111k111k111k111k111k111    k111\" = 40; text() = FULL",
            "log(6, 0, 8); tape \"k111k111k111k111k111k111k111k111     k11\" = 40; text() = -140",
            "log(6, 0, 8); tape \"                                       k\" = 40; text() = -140",
            "log(6, 0, 8); tape \"                                       x\" = 40; text() = -139",
            "log(6, 0, 8); tape \"                                    k774\" = 40; text() = 1; told(0, 3) = 4");
        say("4: the first byte that can't stand there", """
            log(6, 0, 8); tape "x99"; text() = -100; tape "k99"; text() = -101; tape "k111 x x"; text() = -105; tape " \\nx"; text() = -102
            tape "k000"; text() = -103; tape "k1110"; text() = -104; tape "K111"; text() = -100; tape "k111,l111"; text() = -104
            """);
        say("4: blanks may stand ahead of, between, behind", """
            log(6, 0, 8); tape "  \\nk111"; text() = 1; tape "k111\\n \\nk111"; text() = 3; tape "k111  \\n"; text() = 4; tape "k111k111"; text() = 6
            """);
        say("4: THE TAPE is empty then (by a FAULT, too)", """
            log(6, 0, 8); tape "k111"; text() = 1; count(5) = 0; text() = -100; tape "k115"; text() = -103; count(5) = 0; tape "k222"; text() = 2
            """);
    }

    private static void textRoom() {
        say("4: eight FAULTS at most: the eighth has room", """
            log(6, 0, 8); tape "k111k222k333k444l111l222l333o111"; text() = 8; told(7, 0) = 5
            """, """
            log(6, 0, 8); tape "k111k222k333k444l111l222l333"; text() = 7; tape "o111"; text() = 8; tape "o111"; text() = FULL; count(0) = 8
            """);
        say("4: FULL (none comes; THE TAPE is empty, too)", """
            log(6, 0, 8); tape "k111k222k333k444l111l222l333o111t111"; text() = FULL; count(0) = 0; count(5) = 0; text() = -100
            """, """
            log(6, 0, 8); tape "k111k222k333k444l111l222l333"; text() = 7; tape "o111t111"; text() = FULL; count(0) = 7; count(5) = 0
            tape "h222"; text() = 8
            told(7, 0) = 3
            """);
        say("4: the FAULT'S PLACE ahead of FULL", """
            log(6, 0, 8); tape "k111k222k333k444l111l222l333o111t11"; text() = -135; count(5) = 0; count(0) = 0
            tape "k111k222k333k444l111l222l333o111"; text() = 8; tape "k11 "; text() = -103; tape ""; text() = -100; count(0) = 8
            """);
        say("4: FAULTS behind the others, in their order", """
            log(6, 0, 8); fault(6, 5, 4, 3); tape "k123 l234"; text() = 3; told(0, 0) = 6; told(1, 0) = 0; told(2, 0) = 1
            told(1, 1) = 1; told(1, 2) = 2; told(1, 3) = 3; told(2, 1) = 2; told(2, 2) = 3; told(2, 3) = 4
            """);
    }

    private static void faultNumbers() {
        say("5: KINDS 0 .. 6", """
            log(6, 0, 8); fault(-1, 0, 0, 1) = BAD; fault(0, 0, 0, 1) = 0; fault(6, 0, 0, 1) = 1; fault(7, 0, 0, 1) = BAD
            fault(MIN, 0, 0, 1) = BAD; fault(MAX, 0, 0, 1) = BAD; count(0) = 2
            """);
        say("5: ANGLE (0 .. 7)", """
            log(6, 0, 8); fault(0, -1, 0, 1) = BAD; fault(0, 0, 0, 1) = 0; fault(0, 7, 0, 1) = 1; fault(0, 8, 0, 1) = BAD
            fault(0, MIN, 0, 1) = BAD; fault(0, MAX, 0, 1) = BAD; count(0) = 2
            """);
        say("5: SLICE (0 .. 7), of a shorter LOG, too", """
            log(6, 0, 1); fault(0, 0, -1, 1) = BAD; fault(0, 0, 0, 1) = 0; fault(0, 0, 1, 1) = 1; fault(0, 0, 7, 1) = 2
            fault(0, 0, 8, 1) = BAD; fault(0, 0, MIN, 1) = BAD; fault(0, 0, MAX, 1) = BAD; count(0) = 3
            """);
        say("5: SIZE (1 .. 4)", """
            log(6, 0, 8); fault(0, 0, 0, 0) = BAD; fault(0, 0, 0, 1) = 0; fault(0, 0, 0, 4) = 1; fault(0, 0, 0, 5) = BAD
            fault(0, 0, 0, MIN) = BAD; fault(0, 0, 0, MAX) = BAD; count(0) = 2
            """);
    }

    private static void faultRoom() {
        say("5: FAULTS (8 at most, numbered from 0)", """
            log(6, 0, 8); fault(0, 0, 0, 1) = 0; fault(1, 0, 0, 1) = 1; fault(2, 0, 0, 1) = 2; fault(3, 0, 0, 1) = 3; fault(4, 0, 0, 1) = 4
            fault(5, 0, 0, 1) = 5; fault(6, 0, 0, 1) = 6; fault(0, 0, 0, 1) = 7; fault(0, 0, 0, 1) = FULL; count(0) = 8
            fault(7, 0, 0, 1) = BAD; fault(0, 8, 0, 1) = BAD; fault(0, 0, 8, 1) = BAD; fault(0, 0, 0, 0) = BAD   # BAD ahead of FULL
            heal(3) = 7; fault(6, 0, 0, 1) = 7; fault(6, 0, 0, 1) = FULL
            """);
        say("5: STATE ahead of BAD", "fault(0, 0, 0, 1) = STATE; fault(7, 8, 8, 0) = STATE; count(0) = 0");
    }

    private static void knots() {
        say("1: KNOT: ALONG above 0", """
            log(6, 0, 1); fault(0, 0, 0, 1); cell(6, 5, 0, 2) = 0; cell(5, 5, 0, 2) = NONE; heal(0)   # u 1, -1
            fault(0, 4, 0, 1); cell(5, 5, 0, 2) = 0; cell(6, 5, 0, 2) = NONE; heal(0)
            fault(0, 1, 0, 2); cell(6, 5, 0, 2) = NONE; cell(5, 6, 0, 2) = NONE; cell(6, 6, 0, 2) = 0; cell(5, 5, 0, 2) = NONE   # u + v: 0, 0, 2, -2
            """);
        say("1: KNOT: ACROSS at most WIDE, which is SIZE", """
            log(6, 0, 1); fault(0, 0, 0, 2); cell(8, 6, 0, 2) = 0; cell(8, 7, 0, 2) = NONE; cell(8, 4, 0, 2) = NONE; heal(0)     # 1, 3, 3
            fault(0, 0, 0, 3); cell(8, 7, 0, 2) = 0; cell(8, 4, 0, 2) = 0; cell(8, 8, 0, 2) = NONE; cell(8, 3, 0, 2) = NONE; heal(0)
            fault(0, 1, 0, 1); cell(8, 8, 0, 2) = 0; cell(8, 7, 0, 2) = NONE; heal(0)                                                # 0, 2
            fault(0, 1, 0, 2); cell(8, 7, 0, 2) = 0; cell(7, 8, 0, 2) = 0; cell(8, 6, 0, 2) = NONE; heal(0)                         # 2, 2, 4
            fault(0, 1, 0, 4); cell(8, 6, 0, 2) = 0; cell(6, 8, 0, 2) = 0; cell(9, 6, 0, 2) = NONE                                  # 4, 4, 6
            """);
        say("1: LOOSE: WIDE is a KNOT's and 2; SPIKE's, too", """
            log(6, 0, 1); fault(1, 0, 0, 1); cell(8, 7, 0, 2) = 0; cell(8, 8, 0, 2) = NONE; heal(0)   # 3, 5
            fault(1, 0, 0, 3); cell(8, 8, 0, 2) = 0; cell(8, 9, 0, 2) = NONE; heal(0)                 # 5, 7
            fault(2, 0, 0, 1); cell(8, 7, 0, 2) = 0; cell(8, 8, 0, 2) = NONE; heal(0)
            fault(2, 1, 0, 4); cell(9, 6, 0, 2) = 0; cell(10, 6, 0, 2) = NONE; cell(5, 6, 0, 2) = NONE   # 6, 8; u + v 0
            """);
        say("1: by ANGLE p, q", """
            log(6, 0, 1)
            fault(0, 0, 0, 1); cell(9, 5, 0, 2) = 0; heal(0); fault(0, 1, 0, 1); cell(9, 9, 0, 2) = 0; heal(0)
            fault(0, 2, 0, 1); cell(5, 9, 0, 2) = 0; heal(0); fault(0, 3, 0, 1); cell(2, 9, 0, 2) = 0; heal(0)
            fault(0, 4, 0, 1); cell(2, 5, 0, 2) = 0; heal(0); fault(0, 5, 0, 1); cell(2, 2, 0, 2) = 0; heal(0)
            fault(0, 6, 0, 1); cell(5, 2, 0, 2) = 0; heal(0); fault(0, 7, 0, 1); cell(9, 2, 0, 2) = 0; heal(0)
            """);
    }

    private static void shakes() {
        say("1: SHAKE: ACROSS at most 1, on both sides", """
            log(6, 0, 1); fault(3, 0, 0, 4); cell(0, 5, 0, 2) = 0; cell(11, 6, 0, 2) = 0; cell(5, 7, 0, 2) = NONE; cell(5, 4, 0, 2) = NONE; heal(0)
            fault(3, 2, 0, 1); cell(5, 0, 0, 2) = 0; cell(6, 11, 0, 2) = 0; cell(7, 5, 0, 2) = NONE; cell(4, 5, 0, 2) = NONE; heal(0)
            fault(3, 1, 0, 1); cell(8, 8, 0, 2) = 0; cell(3, 3, 0, 2) = 0; cell(8, 7, 0, 2) = NONE; cell(5, 6, 0, 2) = NONE   # 0, 0, 2, 2
            """);
        say("In doubt: RING: its own words stand in place of the SHAKE's", """
            log(6, 0, 1); fault(4, 0, 0, 2); cell(6, 7, 0, 2) = 0; cell(5, 4, 0, 2) = 0; cell(11, 5, 0, 2) = NONE; cell(6, 6, 0, 2) = NONE
            """);
    }

    private static void ringsAndRots() {
        say("1: RING: from the square of (2 SIZE - 1) to the square of (2 SIZE + 1)", """
            log(6, 0, 1)
            fault(4, 0, 0, 1); cell(5, 5, 0, 2) = 0; cell(7, 5, 0, 2) = NONE; heal(0)                                             # 1 .. 9: 2; 10
            fault(4, 0, 0, 2); cell(5, 5, 0, 2) = NONE; cell(7, 5, 0, 2) = 0; cell(7, 7, 0, 2) = 0; cell(8, 5, 0, 2) = NONE; heal(0)   # 9 .. 25: 2; 10, 18; 26
            fault(4, 0, 0, 3); cell(7, 7, 0, 2) = NONE; cell(8, 5, 0, 2) = 0; cell(8, 7, 0, 2) = 0; cell(8, 8, 0, 2) = NONE; heal(0)   # 25 .. 49: 18; 26, 34; 50
            fault(4, 0, 0, 4); cell(8, 7, 0, 2) = NONE; cell(8, 8, 0, 2) = 0; cell(9, 8, 0, 2) = 0; cell(10, 5, 0, 2) = NONE   # 49 .. 81: 34; 50, 74; 82
            """);
        say("1: ROT: at most the square of twice SIZE", """
            log(6, 0, 1)
            fault(5, 0, 0, 1); cell(5, 5, 0, 2) = 0; cell(7, 5, 0, 2) = NONE; heal(0)                                            # 4: 2; 10
            fault(5, 0, 0, 2); cell(7, 5, 0, 2) = 0; cell(7, 7, 0, 2) = NONE; heal(0)                                            # 16: 10; 18
            fault(5, 0, 0, 3); cell(8, 7, 0, 2) = 0; cell(8, 8, 0, 2) = NONE; heal(0)                                            # 36: 34; 50
            fault(5, 0, 0, 4); cell(9, 7, 0, 2) = 0; cell(9, 8, 0, 2) = NONE; cell(10, 5, 0, 2) = NONE                           # 64: 58; 74; 82
            """);
        say("1: STAIN: of a ROT's CELLS those with ALONG above 0", """
            log(6, 0, 1)
            fault(6, 0, 0, 1); cell(6, 5, 0, 2) = 0; cell(5, 5, 0, 2) = NONE; cell(7, 5, 0, 2) = NONE; heal(0)
            fault(6, 1, 0, 1); cell(6, 6, 0, 2) = 0; cell(6, 5, 0, 2) = NONE; cell(5, 6, 0, 2) = NONE; cell(5, 5, 0, 2) = NONE; heal(0)
            fault(6, 6, 0, 4); cell(6, 2, 0, 2) = 0; cell(6, 1, 0, 2) = NONE; cell(5, 6, 0, 2) = NONE
            """);
    }

    private static void lasts() {
        d.part("1: LASTS: so many SLICES from its own on");
        for (int kind = 0; kind < 7; kind++) {
            for (int slice = 0; slice < 8; slice++) {
                for (int size = 1; size <= 4; size++) {
                    int[] lasts = {size, size, 2 * size, size + 2, size + 2, 8, 8};
                    // The ring has its own place; the others have 6, 6 by angle 1.
                    int x = kind == 4 ? 5 + size : 6;
                    int y = kind == 4 && size == 4 ? 7 : 6;
                    Script s = new Script(d).run("log(6, 0, 8); fault(" + kind + ", 1, " + slice + ", " + size + ") = 0");
                    for (int i = 0; i < 8; i++) {
                        s.due("cell(" + x + ", " + y + ", " + i + ", 2)", i >= slice && i < slice + lasts[kind] ? 0 : -1);
                    }
                    s.due("told(0, 5)", Math.min(lasts[kind], 8 - slice));
                }
            }
        }
    }

    private static void hurts() {
        say("1: HURT: the greatest HURTS of FAULTS that are in it; 0", """
            log(6, 0, 2); cell(6, 5, 0, 1) = 0
            fault(6, 0, 0, 1) = 0; cell(6, 5, 0, 1) = 1; fault(0, 0, 0, 1); cell(6, 5, 0, 1) = 1; fault(1, 0, 0, 1); cell(6, 5, 0, 1) = 2
            fault(2, 0, 0, 1); cell(6, 5, 0, 1) = 2; fault(3, 0, 0, 1); cell(6, 5, 0, 1) = 3; fault(4, 0, 0, 1); cell(6, 5, 0, 1) = 4
            fault(5, 0, 1, 1); cell(6, 5, 0, 1) = 4; cell(6, 5, 1, 1) = 9; heal(0) = 6; cell(6, 5, 0, 1) = 4; cell(0, 0, 0, 1) = 0
            """);
    }

    private static void heal() {
        say("6: BAD: no such FAULT", """
            heal(0) = BAD; log(6, 0, 8); heal(0) = BAD; heal(-1) = BAD; fault(0, 0, 0, 1); heal(1) = BAD; heal(-1) = BAD; heal(MIN) = BAD
            heal(MAX) = BAD
            count(0) = 1; heal(0) = 0; heal(0) = BAD
            """);
        say("6: those behind it are 1 less", """
            log(6, 0, 8); tape "k111 l111 s111 h111 r111 o111 t111 k222"; text() = 8
            heal(7) = 7; told(6, 0) = 6; told(7, 0) = BAD; heal(0) = 6; told(0, 0) = 1; told(5, 0) = 6; told(6, 0) = BAD
            heal(2) = 5; told(0, 0) = 1; told(1, 0) = 2; told(2, 0) = 4; told(3, 0) = 5; told(4, 0) = 6; told(5, 0) = BAD
            """);
        say("6: a FAULT is none any more", """
            log(6, 0, 8); fault(5, 0, 0, 4); fault(0, 0, 0, 1); heal(0) = 1; cell(6, 5, 0, 1) = 1; cell(6, 5, 0, 2) = 0
            cell(5, 5, 0, 2) = NONE; count(6) = 12
            """);
    }

    private static void told() {
        say("7: BAD: a FAULT, what", """
            told(0, 0) = BAD; log(6, 0, 8); told(0, 0) = BAD; fault(0, 0, 0, 1); told(0, -1) = BAD; told(0, 0) = 0; told(0, 6) = 1; told(0, 7) = BAD
            told(1, 0) = BAD; told(-1, 0) = BAD; told(MIN, 0) = BAD; told(MAX, 0) = BAD; told(0, MIN) = BAD; told(0, MAX) = BAD
            """);
        say("7: SLICES it LASTS there (no further than the LOG)", """
            log(6, 0, 4); fault(0, 0, 3, 1); told(0, 5) = 1; fault(0, 0, 3, 2); told(1, 5) = 1; fault(0, 0, 2, 2); told(2, 5) = 2
            fault(0, 0, 4, 4); told(3, 5) = 0
            fault(5, 0, 3, 1); told(4, 5) = 1; fault(6, 0, 4, 1); told(5, 5) = 0; fault(5, 0, 7, 1); told(6, 5) = 0; fault(2, 0, 0, 2); told(7, 5) = 4
            """, "log(6, 0, 1); fault(3, 0, 0, 1); told(0, 5) = 1; fault(4, 0, 1, 4); told(1, 5) = 0; fault(6, 0, 0, 1); told(2, 5) = 1",
            """
            log(6, 0, 4); fault(2, 0, 0, 1); told(0, 5) = 2; fault(3, 0, 0, 2); told(1, 5) = 4; fault(3, 0, 0, 3); told(2, 5) = 4
            fault(5, 0, 0, 1); told(3, 5) = 4
            """);
        say("7: in how many CELLS that are WOOD it is", """
            log(2, 0, 3); fault(3, 0, 0, 4); told(0, 4) = 24; fault(0, 0, 2, 4); told(1, 4) = 6; fault(5, 0, 2, 4); told(2, 4) = 12
            fault(5, 0, 3, 4); told(3, 4) = 0
            fault(4, 0, 0, 3); told(4, 4) = 0; fault(4, 0, 0, 2); told(5, 4) = 24; fault(6, 2, 1, 1); told(6, 4) = 4
            """, "log(6, 4, 8); fault(3, 0, 0, 4); told(0, 4) = 84   # 24 + 20 + 16 + 12 + 8 + 4",
            """
            log(6, 4, 8); fault(3, 2, 2, 1); told(0, 4) = 36; fault(3, 0, 5, 1); told(1, 4) = 12; fault(0, 0, 1, 2); told(2, 4) = 18   # 16 + 12 + 8; 4 + 4 + 4; 10 + 8
            fault(5, 0, 0, 4); told(3, 4) = 212   # 52 + 52 + 52 + 32 + 12 + 4 + 4 + 4
            """);
    }

    private static void toldOfEach() {
        d.part("7: KIND, ANGLE, SLICE, SIZE, HURTS of each FAULT, told by numbers or on the tape");
        String letters = "klshrot";
        int[] hurts = {1, 2, 2, 3, 4, 9, 1};
        for (int kind = 0; kind < 7; kind++) {
            for (int angle = 0; angle < 8; angle++) {
                Script s = new Script(d);
                for (int k = 0; k < 8; k++) {
                    // Slices and sizes by turn, so that none goes along with another.
                    int slice = (angle + 3 * k) % 8, size = (kind + angle + k) % 4 + 1;
                    s.ask("log(5, 1, 7)");
                    s.due("fault(" + kind + ", " + angle + ", " + slice + ", " + size + ")", 0);
                    s.ask("tape \"" + letters.charAt(kind) + angle + slice + size + "\"");
                    s.due("text()", 2);
                    for (int f = 0; f < 2; f++) {
                        s.due("told(" + f + ", 0)", kind);
                        s.due("told(" + f + ", 1)", angle);
                        s.due("told(" + f + ", 2)", slice);
                        s.due("told(" + f + ", 3)", size);
                        s.due("told(" + f + ", 6)", hurts[kind]);
                    }
                }
            }
        }
    }

    private static void taken() {
        say("8: BAD: a FAULT, k", """
            taken(0, 0) = BAD; log(6, 0, 8); taken(0, 0) = BAD; fault(0, 0, 0, 1); taken(0, -1) = BAD; taken(0, 0) = 12
            taken(0, 6) = -13; taken(0, 7) = BAD
            taken(1, 0) = BAD; taken(-1, 0) = BAD; taken(1, 7) = BAD; taken(MIN, 0) = BAD; taken(0, MAX) = BAD
            """);
        d.part("8: A FAULT taken for one of KIND k, or one under that; -13");
        int[] under = {-1, 0, 1, -1, 3, -1, 5};
        for (int kind = 0; kind < 7; kind++) {
            for (int k = 0; k < 7; k++) {
                boolean is = false;
                for (int up = kind; up >= 0; up = under[up]) {
                    is |= up == k;
                }
                long got = new Script(d).run("log(6, 0, 8); fault(" + kind + ", 0, 0, 1)").ask("taken(0, " + k + ")");
                d.due("kind " + kind + " taken for " + k, got < 0 ? got : 0, is ? 0 : -13);
            }
        }
        d.part("8: in how many CELLS of a SLICE it LASTS in it is, WOOD or not");
        int[][] straight = {{12, 12, 24, 24}, {24, 24, 36, 36}, {24, 24, 36, 36}, {24, 24, 24, 24}, {4, 12, 16, 28}, {4, 12, 32, 52}, {2, 6, 16, 26}};
        int[][] slanted = {{6, 16, 16, 26}, {16, 26, 26, 34}, {16, 26, 26, 34}, {12, 12, 12, 12}, {4, 12, 16, 28}, {4, 12, 32, 52}, {1, 5, 14, 23}};
        for (int kind = 0; kind < 7; kind++) {
            for (int angle = 0; angle < 8; angle++) {
                for (int size = 1; size <= 4; size++) {
                    int want = (angle % 2 == 0 ? straight : slanted)[kind][size - 1];
                    // Of a log of radius 2, at its end, too: what is no wood counts.
                    new Script(d).run("log(2, 4, 8); fault(" + kind + ", " + angle + ", 7, " + size + ")").due("taken(0, " + kind + ")", want);
                }
            }
        }
    }

    private static void takenOfASlice() {
        say("8: of a SLICE, however many it LASTS in", """
            log(2, 0, 8); fault(2, 0, 0, 2); taken(0, 0) = 24; taken(0, 1) = 24; taken(0, 2) = 24; fault(5, 0, 3, 2); taken(1, 5) = 12
            fault(4, 0, 1, 4); taken(2, 3) = 28; log(2, 0, 1); fault(2, 0, 0, 2); taken(0, 2) = 24; fault(2, 0, 7, 2); taken(1, 2) = 24
            """);
    }

    private static void turns() {
        say("9: TURN (0 .. 3); STATE ahead of BAD", """
            turn(0) = STATE; turn(4) = STATE; log(6, 0, 8); turn(3) = 0; turn(4) = BAD; turn(-1) = BAD; turn(MIN) = BAD; turn(MAX) = BAD
            count(4) = 3; turn(0) = 3; turn(0) = 0
            """);
        d.part("1: by TURN the LOG's own CELL is x, y; y, 11 - x; 11 - x, 11 - y; 11 - y, x");
        // A knot of angle 0 and one of angle 1: own cells 11, 5 and 11, 6; 8, 8.
        int[][] arms = {{11, 5, 11, 6, 8, 8}, {5, 11, 6, 11, 3, 8}, {0, 5, 0, 6, 3, 3}, {5, 0, 6, 0, 8, 3}};
        for (int t = 0; t < 4; t++) {
            Script s = new Script(d).run("log(6, 0, 1); fault(0, 0, 0, 1); fault(0, 1, 0, 1); turn(" + t + ")");
            for (int other = 0; other < 4; other++) {
                int[] a = arms[other];
                s.due("cell(" + a[0] + ", " + a[1] + ", 0, 2)", other == t ? 0 : -1);
                s.due("cell(" + a[2] + ", " + a[3] + ", 0, 2)", other == t ? 0 : -1);
                s.due("cell(" + a[4] + ", " + a[5] + ", 0, 2)", other == t ? 1 : -1);
                s.due("cell(" + a[4] + ", " + a[5] + ", 0, 1)", other == t ? 1 : 0);
            }
        }
        say("1: TURN: a cell besides the axes", """
            log(6, 0, 1); fault(0, 0, 0, 3)
            cell(9, 7, 0, 2) = 0; cell(9, 4, 0, 2) = 0; cell(9, 8, 0, 2) = NONE; turn(1)
            cell(4, 9, 0, 2) = 0; cell(7, 9, 0, 2) = 0; cell(3, 9, 0, 2) = NONE; cell(4, 2, 0, 2) = NONE
            """);
        say("1: the TURN is one from how the LOG lay first, not on top of another", """
            log(6, 0, 1); fault(0, 0, 0, 1); turn(1) = 0; cell(5, 11, 0, 2) = 0; turn(1) = 1; cell(5, 11, 0, 2) = 0; turn(0) = 1
            cell(11, 5, 0, 2) = 0
            """);
    }

    private static void rules() {
        d.part("10: each RULE from its least to its most");
        int[] most = {2, 1, 99, 99, 99, 99, 30};
        int[] first = {1, 1, 9, 6, 3, 1, 12};
        for (int what = 0; what < 7; what++) {
            Script s = new Script(d);
            int was = first[what];
            for (int v = -3; v <= 102; v++) {
                boolean can = v >= 0 && v <= most[what] && (what < 6 || v % 2 == 0);
                s.due("rule(" + what + ", " + v + ")", can ? was : -2);
                was = can ? v : was;
            }
            s.due("rule(" + what + ", MIN)", -2);
            s.due("rule(" + what + ", MAX)", -2);
            s.due("rule(" + what + ", 0)", was);
            for (int other = 0; other < 7; other++) {
                s.due("rule(" + other + ", 0)", other == what ? 0 : first[other]);
            }
        }
        say("10: BAD: what", "rule(-1, 0) = BAD; rule(7, 0) = BAD; rule(MIN, 0) = BAD; rule(MAX, 0) = BAD; rule(6, 12) = 12; rule(0, 1) = 1");
        say("10: without a log, too, and through logs", "rule(0, 2) = 1; log(6, 0, 8); rule(0, 2) = 2; saw(); rule(0, 2) = 2");
    }

    private static void cells() {
        say("11: CELLS x, y (0 .. 11)", """
            log(6, 0, 8); cell(-1, 5, 0, 0) = BAD; cell(0, 5, 0, 0) = 1; cell(11, 5, 0, 0) = 1; cell(12, 5, 0, 0) = BAD
            cell(5, -1, 0, 0) = BAD; cell(5, 0, 0, 0) = 1; cell(5, 11, 0, 0) = 1; cell(5, 12, 0, 0) = BAD
            cell(MIN, 5, 0, 0) = BAD; cell(MAX, 5, 0, 0) = BAD; cell(5, MIN, 0, 0) = BAD; cell(5, MAX, 0, 0) = BAD
            """);
        d.part("11: SLICES 0 .. LONG - 1");
        for (int length = 1; length <= 8; length++) {
            Script s = new Script(d).run("log(6, 0, " + length + "); cell(5, 5, -1, 0) = BAD; cell(5, 5, 8, 0) = BAD; cell(5, 5, MAX, 0) = BAD");
            for (int i = 0; i < 8; i++) {
                s.due("cell(5, 5, " + i + ", 0)", i < length ? 1 : -2);
            }
        }
        say("11: what (0 .. 2)", """
            log(6, 0, 1); cell(5, 5, 0, -1) = BAD; cell(5, 5, 0, 0) = 1; cell(5, 5, 0, 1) = 0; cell(5, 5, 0, 2) = NONE
            cell(5, 5, 0, 3) = BAD; cell(5, 5, 0, MAX) = BAD
            """);
        say("11: STATE ahead of BAD", "cell(5, 5, 0, 0) = STATE; cell(12, 12, 8, 3) = STATE");
        say("11: the least FAULT that is in it; NONE", """
            log(6, 0, 2); fault(5, 0, 1, 4); fault(0, 0, 0, 1); fault(5, 0, 0, 4); cell(6, 5, 0, 2) = 1; cell(5, 5, 0, 2) = 2; cell(6, 5, 1, 2) = 0
            cell(0, 5, 0, 2) = NONE; cell(11, 5, 0, 2) = 1; cell(11, 5, 1, 2) = NONE; heal(0) = 2; cell(6, 5, 0, 2) = 0; cell(6, 5, 1, 2) = 1
            """);
        say("11: HURT and FAULTS of a CELL that is not WOOD, too", """
            log(2, 0, 1); fault(0, 0, 0, 1); cell(11, 5, 0, 0) = 0; cell(11, 5, 0, 1) = 1; cell(11, 5, 0, 2) = 0
            """,
            """
            log(6, 0, 8); fault(0, 5, 7, 1); cell(0, 0, 7, 1) = 1; cell(0, 0, 7, 2) = 0; cell(0, 0, 6, 1) = 0; turn(1)
            cell(11, 0, 7, 1) = 1; turn(2); cell(11, 11, 7, 1) = 1; turn(3); cell(0, 11, 7, 1) = 1; cell(0, 11, 7, 0) = 0
            """);
    }
}
