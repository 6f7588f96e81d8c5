/** The edges that the document names of the stack, the orders, what is served: promises 18 to 22. */
public final class StackEdgesTest {
    private static final Due d = new Due();
    // Twelve boards of thickness 1, grade 0, four slices: 4, 8, 10, 10, 12, 12, 12, 12, 10, 10, 8, 4 columns.
    private static final String TWELVE = "log(6, 0, 4); rule(0, 0); rule(6, 2); saw() = 12\n";
    // Four of thickness 1, one slice: 2, 4, 4, 2 columns.
    private static final String FOUR = "log(2, 0, 1); rule(0, 0); rule(6, 2); saw() = 4\n";
    private static final String ONE = "log(2, 0, 1); rule(0, 2); rule(6, 4); saw() = 1\n";

    public static void main(String[] args) {
        sawState();
        sawRoom();
        sawn();
        stackNumbers();
        orderNumbers();
        orderRoom();
        metNumbers();
        meets();
        meetsGrade();
        meetsEach();
        can();
        serveNone();
        serveLeast();
        serveByTurn();
        serveLast();
        serveAnew();
        d.end("StackEdgesTest");
    }

    private static void say(String words, String... texts) {
        Script.sentence(d, words, texts);
    }

    private static void sawState() {
        say("18: STATE", "saw() = STATE; count(1) = 0; log(6, 0, 4); saw() = 3; saw() = STATE; count(1) = 3");
        say("18: STATE ahead of FULL", TWELVE + """
            log(6, 0, 4); rule(6, 16); saw() = 3; log(2, 0, 1); rule(6, 2); rule(0, 2); saw() = FULL; rule(6, 4); saw() = 1
            count(1) = 16; saw() = STATE
            """);
        say("18: there is no LOG then (no FAULTS, TURN 0)", """
            log(6, 0, 4); fault(0, 0, 0, 1); turn(3); saw(); count(0) = 0; count(3) = 0; count(4) = 0; count(6) = 0; heal(0) = BAD; told(0, 0) = BAD
            turn(0) = STATE; best(0) = NO; fault(0, 0, 0, 1) = STATE; text() = STATE; log(6, 0, 4); turn(1) = 0; cell(6, 5, 0, 1) = 0
            """);
        say("18: how many came, none too", """
            log(6, 0, 4); rule(6, 0); saw() = 0; count(3) = 0; count(1) = 0; stack(0, 0) = -12; log(6, 0, 4); rule(6, 4); rule(2, 0)
            saw() = 0; saw() = STATE
            """);
    }

    private static void sawRoom() {
        say("18: BOARDS sawn (16 at most): the sixteenth has room", TWELVE + """
            log(2, 0, 1); saw() = 4; count(1) = 16; stack(15, 1) = 2; stack(16, 1) = -12
            """);
        say("18: FULL: they have no room: not for one more", TWELVE + """
            log(6, 0, 4); rule(6, 4); opening(-1, 0) = 6; saw() = FULL; count(1) = 12; count(3) = 4; rule(0, 1); opening(-1, 0) = 4
            saw() = 4; count(1) = 16
            log(2, 0, 1); rule(0, 2); opening(-1, 0) = 1; fault(0, 0, 0, 1); turn(3); saw() = FULL; count(1) = 16; count(3) = 1
            count(0) = 1; count(4) = 3
            """, TWELVE + """
            log(6, 0, 4); rule(6, 6); rule(0, 1); opening(-1, 0) = 5; saw() = FULL; count(1) = 12; count(3) = 4
            """, TWELVE + """
            log(2, 0, 1); saw() = 4; order(1, 0, 12, 4) = 0; serve() = 1; count(1) = 15; log(2, 0, 1); rule(6, 4); rule(0, 2); saw() = 1
            count(1) = 16
            log(2, 0, 1); saw() = FULL
            """);
        say("18: FULL, by how many more than have room does not matter", TWELVE + """
            log(6, 0, 1); rule(6, 6); rule(0, 0); opening(-1, 0) = 8; saw() = FULL; rule(6, 14); rule(0, 1); opening(-1, 0) = 4
            """,
            """
            log(6, 0, 1); rule(6, 2); rule(0, 0); saw() = 12; log(3, 0, 1); opening(-1, 0) = 6; saw() = FULL; count(1) = 12; log(3, 4, 4)
            rule(0, 1); opening(-1, 0) = 3; saw() = 3; count(1) = 15
            """);
        say("18: none comes to a full stack, and the log is gone", TWELVE + """
            log(2, 0, 1); saw() = 4; log(2, 0, 1); rule(6, 0); saw() = 0; count(1) = 16; count(3) = 0
            """);
    }

    private static void sawn() {
        say("18: its BEST PIECES come to THE STACK, from above, behind the others", TWELVE + """
            stack(0, 1) = 4; stack(1, 1) = 8; stack(2, 1) = 10; stack(4, 1) = 12; stack(7, 1) = 12; stack(8, 1) = 10; stack(10, 1) = 8
            stack(11, 1) = 4
            log(2, 0, 1); saw() = 4; stack(11, 2) = 4; stack(12, 2) = 1; stack(12, 1) = 2; stack(13, 1) = 4; stack(15, 1) = 2
            """);
        say("18: as it lies", """
            log(6, 0, 8); rule(0, 2); rule(6, 4); rule(2, 9); fault(6, 2, 7, 4); rule(1, 0); saw() = 3; stack(0, 3) = 0; stack(2, 3) = 1
            log(6, 0, 8); fault(6, 2, 7, 4); turn(2); saw() = 3; stack(3, 3) = 1; stack(5, 3) = 0
            """);
        say("2: THICKNESS, how many COLUMNS, SLICES, GRADE", """
            log(5, 3, 6); tape "k021l142s312h411r013o052t221"; text() = 7; saw() = 3
            stack(0, 0) = 3; stack(0, 1) = 4; stack(0, 2) = 3; stack(0, 3) = 0; stack(1, 0) = 2; stack(1, 1) = 10; stack(1, 2) = 1; stack(1, 3) = 0
            """, """
            log(2, 0, 8); rule(0, 2); rule(6, 4); fault(5, 0, 7, 2); fault(3, 0, 0, 1); board(5, 2, 2) = 3; board(5, 2, 3) = 6; saw() = 1
            stack(0, 0) = 2; stack(0, 1) = 4; stack(0, 2) = 4; stack(0, 3) = 0
            log(6, 0, 8); rule(0, 2); rule(6, 4); fault(3, 2, 0, 4); fault(3, 2, 4, 4); fault(0, 4, 0, 1); board(5, 2, 0) = 7
            board(5, 2, 1) = 11; saw() = 3
            stack(2, 1) = 5; stack(2, 2) = 8; stack(2, 3) = 0
            """);
    }

    private static void stackNumbers() {
        say("19: how many there are (k -1; a what that is none is refused, too)", """
            stack(-1, 0) = 0; stack(-1, 3) = 0; stack(-1, 4) = BAD; stack(-1, -1) = BAD; stack(-1, MIN) = BAD; stack(-1, MAX) = BAD
            """, TWELVE + "stack(-1, 0) = 12; stack(-1, 4) = BAD");
        say("19: -12: no such BOARD", "stack(0, 0) = -12; stack(-2, 0) = -12", TWELVE + """
            stack(11, 0) = 1; stack(12, 0) = -12; stack(15, 0) = -12; stack(16, 0) = -12; stack(-2, 0) = -12; stack(MIN, 0) = -12
            stack(MAX, 0) = -12
            """);
        say("19: what (0 .. 3); BAD ahead of -12", "stack(0, 4) = BAD; stack(-2, 4) = BAD", TWELVE + """
            stack(0, -1) = BAD; stack(0, 0) = 1; stack(0, 3) = 0; stack(0, 4) = BAD; stack(12, 4) = BAD; stack(12, -1) = BAD
            """);
    }

    private static void orderNumbers() {
        say("20: a THICKNESS (1 .. 4)", """
            order(0, 0, 1, 1) = BAD; order(1, 0, 1, 1) = 0; order(4, 0, 1, 1) = 1; order(5, 0, 1, 1) = BAD; order(MIN, 0, 1, 1) = BAD
            order(MAX, 0, 1, 1) = BAD; count(2) = 2
            """);
        say("20: the worst GRADE (0 .. 3)", """
            order(1, -1, 1, 1) = BAD; order(1, 0, 1, 1) = 0; order(1, 3, 1, 1) = 1; order(1, 4, 1, 1) = BAD; order(1, MIN, 1, 1) = BAD
            order(1, MAX, 1, 1) = BAD; count(2) = 2
            """);
        say("20: the fewest COLUMNS (1 .. 12)", """
            order(1, 0, 0, 1) = BAD; order(1, 0, 1, 1) = 0; order(1, 0, 12, 1) = 1; order(1, 0, 13, 1) = BAD; order(1, 0, MIN, 1) = BAD
            order(1, 0, MAX, 1) = BAD; count(2) = 2
            """);
        say("20: SLICES (1 .. 8)", """
            order(1, 0, 1, 0) = BAD; order(1, 0, 1, 1) = 0; order(1, 0, 1, 8) = 1; order(1, 0, 1, 9) = BAD; order(1, 0, 1, MIN) = BAD
            order(1, 0, 1, MAX) = BAD; count(2) = 2
            """);
    }

    private static void orderRoom() {
        say("20: ORDERS (6 at most, numbered from 0); BAD ahead of FULL", """
            order(1, 0, 1, 1) = 0; order(1, 0, 1, 1) = 1; order(1, 0, 1, 1) = 2; order(1, 0, 1, 1) = 3; order(1, 0, 1, 1) = 4; order(1, 0, 1, 1) = 5
            order(1, 0, 1, 1) = FULL; order(0, 0, 1, 1) = BAD; order(1, 4, 1, 1) = BAD; order(1, 0, 13, 1) = BAD; order(1, 0, 1, 9) = BAD
            count(2) = 6
            """, FOUR + """
            order(1, 0, 1, 1); order(1, 0, 4, 1); order(4, 0, 1, 1); order(4, 0, 1, 1); order(4, 0, 1, 1); order(4, 0, 1, 1) = 5
            order(1, 0, 1, 1) = FULL
            serve() = 2; order(1, 0, 1, 1) = 4; order(1, 0, 1, 1) = 5; order(1, 0, 1, 1) = FULL
            """);
    }

    private static void metNumbers() {
        say("21: what (0, 1)", "met(-1) = BAD; met(0) = 0; met(1) = 0; met(2) = BAD; met(MIN) = BAD; met(MAX) = BAD");
        say("21: no BOARDS, no ORDERS", "order(1, 0, 1, 1); met(0) = 0; met(1) = 0", TWELVE + "met(0) = 0; met(1) = 0");
        say("21: six ORDERS, sixteen BOARDS", TWELVE + """
            log(2, 0, 1); saw(); order(1, 3, 1, 1); order(1, 0, 1, 1); order(1, 3, 1, 1); order(1, 0, 2, 1); order(1, 0, 1, 1); order(1, 1, 2, 1) = 5
            met(0) = 63; met(1) = 16
            """);
    }

    private static void meets() {
        say("2: MEETS: a BOARD that has the THICKNESS", "log(2, 0, 7); rule(0, 2); rule(6, 4); saw() = 1; stack(0, 1) = 4; stack(0, 2) = 7\n"
            + "order(1, 3, 1, 1); order(3, 3, 1, 1); order(4, 3, 1, 1); met(0) = 0; met(1) = 0; order(2, 3, 1, 1); met(0) = 8; met(1) = 1");
        say("2: no fewer COLUMNS", """
            log(2, 0, 7); rule(0, 2); rule(6, 4); saw() = 1; order(2, 0, 5, 7); met(0) = 0; met(1) = 0; order(2, 0, 4, 7); met(0) = 2
            met(1) = 1; order(2, 0, 3, 7); met(0) = 2
            """,
            "log(2, 0, 7); rule(0, 2); rule(6, 4); saw() = 1; order(2, 0, 3, 7); met(0) = 1");
        say("2: no fewer SLICES", """
            log(2, 0, 7); rule(0, 2); rule(6, 4); saw() = 1; order(2, 0, 4, 8); met(0) = 0; met(1) = 0; order(2, 0, 4, 7); met(0) = 2
            met(1) = 1
            """,
            "log(2, 0, 7); rule(0, 2); rule(6, 4); saw() = 1; order(2, 0, 4, 6); met(0) = 1");
    }

    private static void meetsGrade() {
        d.part("2: no worse GRADE");
        String[] faults = {"", "fault(6, 2, 7, 1)", "fault(0, 0, 0, 1)", "fault(5, 0, 7, 1)"};
        for (int grade = 0; grade < 4; grade++) {
            for (int worst = 0; worst < 4; worst++) {
                Script s = new Script(d).run("""
            log(2, 0, 8); rule(1, 0); rule(0, 2); rule(6, 4); rule(4, 6)\n
            """ + faults[grade] + "\nsaw() = 1; stack(0, 3) = " + grade);
                s.run("order(2, " + worst + ", 4, 8) = 0; met(0) = " + (grade <= worst ? 1 : 0) + "; met(1) = " + (grade <= worst ? 1 : 0));
            }
        }
    }

    private static void can() {
        say("2: each can have a BOARD of its own", FOUR + """
            order(1, 0, 4, 1); order(1, 0, 4, 1); order(1, 0, 4, 1); order(1, 0, 1, 1); order(1, 0, 2, 1); order(1, 0, 1, 1); met(0) = 27
            met(1) = 4
            """,
            FOUR + "order(1, 0, 1, 1); order(1, 0, 1, 1); order(1, 0, 3, 1); order(1, 0, 3, 1); order(1, 0, 1, 1); order(1, 0, 4, 1); met(0) = 15",
            ONE + "order(2, 0, 1, 1); order(2, 0, 1, 1); met(0) = 1; met(1) = 1");
        say("2: MET: from ORDER 0 on each with which those MET so far CAN be", """
            log(2, 0, 1); rule(0, 0); rule(6, 2); saw() = 4; order(1, 0, 5, 1); order(1, 0, 4, 1); order(2, 3, 1, 1); order(1, 0, 4, 1)
            order(1, 0, 3, 1); order(1, 0, 2, 1)
            met(0) = 42; met(1) = 4
            """);
        say("21: how many BOARDS MEET some ORDER, also one that is not MET", ONE + """
            order(2, 0, 1, 1); order(2, 0, 4, 1); met(0) = 1; met(1) = 1
            """, FOUR + """
            order(1, 0, 3, 1); order(1, 0, 3, 1); order(1, 0, 3, 1); met(0) = 3; met(1) = 2; order(1, 0, 2, 1); met(1) = 4
            """);
    }

    /** What is asked of one BOARD, not of the first one; the first is no better, then no worse. */
    private static void meetsEach() {
        say("2: MEETS: each BOARD by its own SLICES and COLUMNS", """
            rule(0, 2); rule(6, 16); log(3, 0, 4); saw() = 1; log(3, 0, 1); saw() = 1; log(2, 0, 4); saw() = 1   # 6 by 4, 6 by 1, 2 by 4
            order(4, 0, 6, 2) = 0; met(1) = 1; serve() = 1; stack(0, 2) = 1; order(4, 0, 1, 2) = 0; met(1) = 1; serve() = 1; count(1) = 1
            stack(0, 1) = 6
            """, """
            rule(0, 2); rule(6, 16); log(3, 0, 1); saw() = 1; log(2, 0, 4); saw() = 1; log(3, 0, 4); saw() = 1   # 6 by 1, 2 by 4, 6 by 4
            order(4, 0, 6, 2) = 0; met(1) = 1; serve() = 1; count(1) = 2; stack(1, 1) = 2; order(4, 0, 1, 2) = 0; met(1) = 1
            order(4, 0, 3, 1) = 1; met(0) = 3; met(1) = 2
            """);
        String fair = "log(2, 0, 8); saw() = 1\n", poor = "log(2, 0, 8); fault(5, 0, 7, 1); saw() = 1\n";
        String rules = "rule(1, 0); rule(0, 2); rule(6, 4)\n";
        say("2: MEETS: each BOARD by its own GRADE; 22: what is left keeps its own", rules + fair + poor + """
            stack(0, 3) = 0; stack(1, 3) = 3; order(2, 1, 4, 8) = 0; order(2, 0, 4, 8) = 1; met(0) = 1; met(1) = 1
            serve() = 1; stack(0, 3) = 3; count(1) = 1; met(0) = 0
            """, rules + poor + fair + """
            stack(0, 3) = 3; stack(1, 3) = 0; order(2, 1, 4, 8) = 0; met(1) = 1; serve() = 1; stack(0, 3) = 3; count(1) = 1
            """, rules + fair + """
            order(2, 0, 4, 8) = 0; order(2, 3, 4, 8) = 1; met(0) = 1; serve() = 1; count(2) = 1
            """ + poor + "met(0) = 1; serve() = 1", rules + fair + """
            order(2, 3, 4, 8) = 0; order(2, 0, 4, 8) = 1; met(0) = 1; serve() = 1; count(2) = 1
            """ + poor + "met(0) = 0; met(1) = 0; serve() = 0");
    }

    private static void serveNone() {
        say("22: how many: none", "serve() = 0; order(1, 0, 1, 1); serve() = 0; count(2) = 1", TWELVE + """
            serve() = 0; count(1) = 12; order(2, 0, 1, 1); serve() = 0; count(1) = 12; count(2) = 1; stack(11, 1) = 4
            """);
        say("22: without a log, and with one", ONE + """
            order(2, 0, 4, 1); log(6, 0, 8); fault(0, 0, 0, 1); turn(1); serve() = 1; count(3) = 8; count(0) = 1; count(4) = 1
            count(1) = 0; count(2) = 0
            """);
    }

    private static void serveLeast() {
        say("22: ORDERS MET by turn get the least BOARD", TWELVE + """
            order(1, 0, 10, 4); order(1, 0, 1, 1); order(1, 0, 12, 4); serve() = 3; count(1) = 9; stack(0, 1) = 8; stack(1, 1) = 10
            stack(2, 1) = 12; stack(4, 1) = 12; stack(5, 1) = 10
            """,
            TWELVE + """
            order(1, 0, 8, 4); serve() = 1; stack(0, 1) = 4; stack(1, 1) = 10
            """, TWELVE + """
            order(1, 0, 12, 4); order(1, 0, 12, 4); order(1, 0, 12, 4); order(1, 0, 12, 4); order(1, 0, 12, 4); met(0) = 15; serve() = 4
            count(2) = 1; count(1) = 8; stack(4, 1) = 10
            """);
        say("22: with which the others of them still CAN be met", """
            log(6, 0, 1); rule(0, 2); rule(6, 4); saw() = 3; log(2, 0, 1); saw() = 1; stack(0, 1) = 8; stack(1, 1) = 12; stack(2, 1) = 8
            stack(3, 1) = 4
            order(2, 0, 4, 1); order(2, 0, 8, 1); order(2, 0, 9, 1); met(0) = 7; serve() = 3; count(1) = 1; stack(0, 1) = 4   # 0; 2, not 1; 1
            """, FOUR + """
            order(1, 0, 1, 1); order(1, 0, 4, 1); order(1, 0, 4, 1); serve() = 3; count(1) = 1; stack(0, 1) = 2
            order(1, 0, 1, 1) = 0; serve() = 1; count(1) = 0
            """, FOUR + "order(1, 0, 2, 1); order(1, 0, 2, 1); order(1, 0, 4, 1); order(1, 0, 1, 1); serve() = 4; count(1) = 0",
            FOUR + "order(1, 0, 2, 1); order(1, 0, 1, 1); order(1, 0, 4, 1); serve() = 3; count(1) = 1; stack(0, 1) = 2   # 0; 1; 2");
    }

    private static void serveLast() {
        say("22: the sixteenth BOARD, the sixth ORDER", TWELVE + """
            rule(6, 16); log(2, 0, 1); saw() = 1; log(2, 0, 1); saw() = 1; log(2, 0, 1); saw() = 1; rule(6, 4); rule(0, 2); log(2, 0, 1); saw() = 1
            count(1) = 16; order(3, 0, 1, 1); order(3, 0, 1, 1); order(3, 0, 1, 1); order(3, 0, 1, 1); order(3, 0, 1, 1); order(2, 0, 4, 1) = 5
            met(0) = 32; met(1) = 1; serve() = 1; count(1) = 15; count(2) = 5; stack(14, 0) = 4; stack(15, 0) = -12; met(0) = 0
            """, TWELVE + """
            log(2, 0, 1); saw() = 4; order(1, 0, 1, 1); order(1, 0, 1, 1); order(1, 0, 1, 1); order(1, 0, 1, 1); order(1, 0, 1, 1)
            order(1, 0, 1, 1) = 5; serve() = 6; count(1) = 10; count(2) = 0; stack(0, 1) = 12; stack(1, 1) = 12; stack(2, 1) = 10; stack(9, 1) = 2
            """);
    }

    private static void serveByTurn() {
        // Thickness 4 alone: 6 columns of 4 slices, 6 of 1, 2 of 4.
        String three = "rule(0, 2); rule(6, 16); log(3, 0, 4); saw() = 1; log(3, 0, 1); saw() = 1; log(2, 0, 4); saw() = 1\n";
        say("22: by turn: ORDER 0 has the least BOARD ahead of the others", three + """
            order(4, 0, 6, 1); order(4, 0, 2, 4); serve() = 2; count(1) = 1; stack(0, 1) = 6; stack(0, 2) = 1   # 0; 2
            """, three + """
            order(4, 0, 2, 4); order(4, 0, 6, 1); serve() = 2; count(1) = 1; stack(0, 1) = 2; stack(0, 2) = 4   # 0; 1
            """, three + """
            order(4, 0, 6, 1); order(4, 0, 6, 1); order(4, 0, 2, 4); serve() = 3; count(1) = 0                  # 0; 1; 2
            """, three + """
            order(4, 0, 6, 1); order(4, 0, 6, 4); order(4, 0, 2, 4); met(0) = 7; met(1) = 3; serve() = 3        # 1, not 0; 0; 2
            """);
    }

    private static void serveAnew() {
        say("22: those BOARDS and ORDERS are none any more (others are numbered anew by turn)", FOUR + """
            order(4, 0, 1, 1) = 0; order(1, 0, 3, 1) = 1; order(3, 1, 2, 1) = 2; order(1, 0, 1, 1) = 3; order(2, 0, 3, 1) = 4
            met(0) = 10; serve() = 2; count(2) = 3; count(1) = 2
            stack(0, 1) = 4; stack(1, 1) = 2; stack(2, 1) = -12; order(1, 0, 4, 1) = 3; met(0) = 8
            log(2, 0, 1); rule(0, 2); rule(6, 4); saw() = 1; met(0) = 12; log(6, 0, 1); rule(6, 16); saw() = 2; met(0) = 13; serve() = 3
            count(2) = 1; count(1) = 2; order(3, 0, 1, 1) = 1
            """);
        say("22: the image keeps what was served", FOUR + """
            order(1, 0, 1, 1); order(4, 0, 1, 1); image() = 0; serve() = 1; count(1) = 3; back() = 0; count(1) = 4; count(2) = 2
            met(0) = 1; serve() = 1; count(2) = 1
            """);
    }
}
