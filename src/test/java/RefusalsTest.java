import java.util.List;

/** Each refused call in some state: what it answers (the first refusal that its words name), and that all else stays. */
public final class RefusalsTest {
    private static final Due d = new Due();

    private static final String NO_LOG = """
        order(1, 0, 6, 3); order(2, 3, 4, 2)
        sheet(0, 0, 3); put(0, 1, 2); sheet(1, 1, 12); put(1, 11, 1); sheet(2, 0, 40); put(2, 39, 1)
        tape "k123 l234"
        rule(0, 2); rule(3, 50); rule(6, 14)
        """;

    private static final String SAWN = """
        log(3, 0, 5); rule(6, 6); rule(2, 8); fault(0, 0, 1, 1); saw()
        order(2, 1, 4, 4); order(1, 3, 8, 3); order(2, 0, 6, 5)
        log(5, 2, 6); fault(4, 0, 2, 2); fault(1, 7, 0, 3); turn(3); rule(5, 4); image(); saw(); order(1, 0, 2, 2)
        sheet(0, 0, 3); put(0, 1, 2); sheet(1, 1, 12); put(1, 11, 1); sheet(2, 0, 40); put(2, 39, 1)
        tape "k123 l234"
        """;

    private static final String SOME = """
        log(3, 0, 5); rule(6, 6); rule(2, 8); fault(0, 0, 1, 1); saw()
        order(2, 1, 4, 4); order(1, 3, 8, 3); order(2, 0, 6, 5)
        log(5, 2, 6); fault(4, 0, 2, 2); fault(1, 7, 0, 3); turn(3); rule(5, 4); image()
        rule(0, 0); rule(6, 12); order(1, 0, 2, 2); log(6, 1, 7); fault(0, 0, 2, 2); fault(3, 2, 3, 1); fault(5, 0, 6, 1); turn(1)
        sheet(0, 0, 3); put(0, 1, 2); sheet(1, 1, 12); put(1, 11, 1); sheet(2, 0, 40); put(2, 39, 1); sheet(3, 1, 40); sheet(3, -1, 0)
        tape "k123l234 "
        """;

    private static final String FULL = """
        log(6, 0, 4); rule(0, 0); rule(6, 2); saw(); log(2, 0, 3); saw()
        order(1, 0, 2, 1); order(1, 0, 12, 4); order(1, 1, 9, 4); order(2, 3, 1, 1); order(1, 3, 10, 2); order(1, 2, 5, 1)
        rule(6, 14); log(5, 1, 8); fault(6, 0, 7, 1); fault(0, 3, 2, 2); fault(1, 1, 1, 1); fault(2, 6, 4, 1)
        fault(3, 2, 5, 1); fault(4, 0, 6, 1); fault(5, 0, 7, 1); fault(0, 5, 0, 4); turn(2); image(); rule(0, 2)
        sheet(0, 1, 12); put(0, 5, 3); sheet(1, 0, 13); put(1, 12, 1); sheet(2, 0, 40); put(2, 39, 1); sheet(3, 1, 0)
        tape "k111 l222\\nk333s444 h551r661o771 t772    "
        """;

    private static final String[] BAD_EVERYWHERE = {
        "log(1, 0, 1)", "log(7, 0, 1)", "log(2, -1, 1)", "log(2, 5, 1)", "log(2, 0, 0)", "log(2, 0, 9)", "log(2, 0, -1)",
        "log(MIN, 0, 1)", "log(6, MAX, 1)", "log(6, 0, MIN)",
        "feed(0, 0, 0, 0, 0, 0)", "feed(6, 0, 0, 0, 0, 0)", "feed(-1, 0, 0, 0, 0, 0)", "feed(1, -1, 0, 0, 0, 0)",
        "feed(1, 256, 0, 0, 0, 0)", "feed(1, 0, -1, 0, 0, 0)", "feed(1, 0, 256, 0, 0, 0)", "feed(2, 0, 0, -1, 0, 0)",
        "feed(2, 0, 0, 256, 0, 0)", "feed(3, 0, 0, 0, -1, 0)", "feed(3, 0, 0, 0, 256, 0)", "feed(4, 0, 0, 0, 0, -1)",
        "feed(4, 0, 0, 0, 0, 256)", "feed(5, 107, 48, 48, 48, 256)", "feed(MAX, 0, 0, 0, 0, 0)", "feed(1, MIN, 0, 0, 0, 0)",
        "heal(-1)", "heal(8)", "heal(MIN)", "heal(MAX)", "told(-1, 0)", "told(8, 0)", "told(0, -1)", "told(0, 7)", "told(MAX, 0)",
        "taken(-1, 0)", "taken(8, 0)", "taken(0, -1)", "taken(0, 7)", "taken(MIN, MAX)",
        "rule(-1, 0)", "rule(7, 0)", "rule(0, -1)", "rule(0, 3)", "rule(1, -1)", "rule(1, 2)", "rule(2, -1)", "rule(2, 100)",
        "rule(3, -1)", "rule(3, 100)", "rule(4, -1)", "rule(4, 100)", "rule(5, -1)", "rule(5, 100)", "rule(6, -2)", "rule(6, 32)",
        "rule(6, -1)", "rule(6, 1)", "rule(6, 29)", "rule(6, 31)", "rule(MIN, 0)", "rule(0, MAX)", "rule(6, MIN)",
        "stack(-1, -1)", "stack(-1, 4)", "stack(0, -1)", "stack(0, 4)", "stack(16, 4)", "stack(-2, -1)",
        "order(0, 0, 1, 1)", "order(5, 0, 1, 1)", "order(1, -1, 1, 1)", "order(1, 4, 1, 1)", "order(1, 0, 0, 1)",
        "order(1, 0, 13, 1)", "order(1, 0, 1, 0)", "order(1, 0, 1, 9)", "order(MIN, MAX, MIN, MAX)",
        "met(-1)", "met(2)", "met(MAX)", "count(-1)", "count(7)", "count(MIN)",
        "sheet(-1, 0, 1)", "sheet(4, 0, 1)", "sheet(0, -2, 1)", "sheet(0, 2, 1)", "sheet(0, 0, 41)", "sheet(0, 1, MAX)",
        "sheet(4, -1, 0)", "sheet(-1, -1, 0)", "sheet(4, 0, -1)", "sheet(-1, 1, -1)", "sheet(0, 2, -1)", "sheet(1, -2, -1)", "sheet(4, 2, 41)",
        "put(-1, 0, 1)", "put(4, 0, 1)", "put(4, -1, 1)", "put(-1, 40, 1)", "put(MAX, 0, 1)",
        "copy(-1, 0, 0, 0, 1)", "copy(4, 0, 0, 0, 1)", "copy(0, 0, -1, 0, 1)", "copy(0, 0, 4, 0, 1)", "copy(4, -1, 4, -1, -1)",
        "copy(3, 0, 4, 0, 1)", "copy(4, 0, 3, 0, 1)", "copy(0, 0, 4, 0, -1)", "copy(-1, 99, 1, 0, 1)", "copy(MIN, 0, MAX, 0, 1)"};

    private static final String[] BAD_WITH_A_LOG = {
        "fault(-1, 0, 0, 1)", "fault(7, 0, 0, 1)", "fault(0, -1, 0, 1)", "fault(0, 8, 0, 1)", "fault(0, 0, -1, 1)",
        "fault(0, 0, 8, 1)", "fault(0, 0, 0, 0)", "fault(0, 0, 0, 5)", "fault(MIN, 0, 0, 1)", "fault(0, MAX, 0, 1)",
        "turn(-1)", "turn(4)", "turn(MIN)", "turn(MAX)",
        "cell(-1, 0, 0, 0)", "cell(12, 0, 0, 0)", "cell(0, -1, 0, 0)", "cell(0, 12, 0, 0)", "cell(0, 0, -1, 0)", "cell(0, 0, 8, 0)",
        "cell(0, 0, 0, -1)", "cell(0, 0, 0, 3)", "cell(MAX, MIN, MAX, MIN)",
        "board(-1, 1, 0)", "board(12, 1, 0)", "board(11, 2, 0)", "board(10, 3, 0)", "board(9, 4, 0)", "board(0, 0, 0)",
        "board(0, 5, 0)", "board(0, 1, -1)", "board(0, 1, 7)", "board(MAX, 4, 0)", "board(MIN, 1, 0)", "board(4, MAX, 0)",
        "graded(-1, 1, 5, 6, 0)", "graded(12, 1, 5, 6, 0)", "graded(9, 4, 5, 6, 0)", "graded(5, 0, 5, 6, 0)", "graded(5, 5, 5, 6, 0)",
        "graded(5, 1, -1, 6, 0)", "graded(5, 1, 5, 12, 0)", "graded(5, 1, 12, 12, 0)", "graded(5, 1, -1, -1, 0)", "graded(5, 1, 6, 5, 0)",
        "graded(5, 1, 5, 6, -1)", "graded(5, 1, 5, 6, 64)", "graded(5, 1, 5, 6, 8)", "graded(5, 1, 5, 6, 62)",
        "graded(5, 1, MIN, MAX, 0)", "graded(5, 1, 5, 6, MIN)", "graded(5, 1, 5, 6, MAX)",
        "graded(0, 1, 1, 0, 0)", "graded(0, 1, 0, 11, 64)",
        "opening(-1, -1)", "opening(-1, 3)", "opening(0, -1)", "opening(0, 3)", "opening(12, 3)", "opening(-2, -1)",
        "chance(1, 0, 1, 0)", "chance(1, 9, 1, 0)", "chance(1, -1, 1, 0)", "chance(1, 1, -1, 0)", "chance(1, 1, MIN, 0)",
        "chance(1, 1, 1, -1)", "chance(1, 1, 1, 2)", "chance(1, MAX, 1, 0)",
        "tells(-1, 0)", "tells(4, 0)", "tells(0, -1)", "tells(0, 3)", "tells(2, 3)", "tells(4, 3)"};

    private static final String[] NO_WITH_A_LOG = {
        "worth(-1, 1)", "worth(12, 1)", "worth(11, 2)", "worth(10, 3)", "worth(9, 4)", "worth(0, 0)", "worth(0, 5)", "worth(MAX, 1)",
        "worth(MIN, 4)", "worth(4, MAX)", "worth(4, MIN)", "best(-2)", "best(4)", "best(MIN)", "best(MAX)",
        "without(-1)", "without(8)", "without(MIN)", "without(MAX)", "drawn(1, -1)", "drawn(1, 9)", "drawn(1, MIN)", "drawn(1, MAX)"};

    // Each also with numbers that are none: no log comes first.
    private static final String[] STATE_WITHOUT_A_LOG = {
        "text()", "fault(0, 0, 0, 1)", "fault(-1, 8, 8, 0)", "turn(0)", "turn(4)", "cell(0, 0, 0, 0)", "cell(12, -1, 8, 3)",
        "board(0, 1, 0)", "board(12, 5, 7)", "graded(5, 1, 5, 6, 0)", "graded(-1, 0, 6, 5, 64)", "opening(-1, 0)", "opening(0, 0)",
        "opening(99, 3)", "bestTurn()", "saw()", "chance(1, 1, 1, 0)", "chance(1, 0, -1, 2)", "tells(0, 0)", "tells(3, 0)",
        "tells(2, 0)", "tells(4, 3)"};

    private static final String[] NO_WITHOUT_A_LOG = {"worth(0, 1)", "worth(12, 5)", "best(0)", "best(-1)", "best(4)", "without(0)",
        "without(-1)", "drawn(1, 1)", "drawn(1, 0)", "drawn(1, 9)"};

    public static void main(String[] args) {
        withoutALog();
        withSome();
        whenFull();
        onlyOneIsFull();
        tapeGoesAlone();
        onlyAsked();
        askedBetween();
        d.end("RefusalsTest");
    }

    private static void withoutALog() {
        for (String state : new String[] {NO_LOG, SAWN}) {
            List<String> stays = lookAt(state);
            refused(state, stays, "STATE", STATE_WITHOUT_A_LOG);
            refused(state, stays, "NO", NO_WITHOUT_A_LOG);
            refused(state, stays, "BAD", BAD_EVERYWHERE);
            // Without a log there are no faults.
            refused(state, stays, "BAD", "heal(0)", "told(0, 0)", "told(0, 7)", "taken(0, 0)", "taken(0, 7)");
            refused(state, stays, "-12", "stack(16, 0)", "stack(-2, 0)", "stack(16, 3)");
            refused(state, stays, "-11", "put(3, 0, 1)", "put(3, -1, 1)", "copy(3, 0, 0, 0, 1)", "copy(0, 0, 3, 0, 1)", "copy(3, 0, 3, 0, 0)");
        }
        refused(NO_LOG, lookAt(NO_LOG), "STATE", "back()");
        String noImage = SOME.replace("image()", "");
        refused(noImage, lookAt(noImage), "STATE", "back()");
        refused(NO_LOG, lookAt(NO_LOG), "-12", "stack(0, 0)");
    }

    private static void withSome() {
        List<String> stays = lookAt(SOME);
        refused(SOME, stays, "BAD", BAD_EVERYWHERE);
        refused(SOME, stays, "BAD", BAD_WITH_A_LOG);
        refused(SOME, stays, "NO", NO_WITH_A_LOG);
        // One beyond the last that there is: three faults, slices 0 .. 6.
        refused(SOME, stays, "BAD", "heal(3)", "told(3, 0)", "taken(3, 0)", "cell(5, 5, 7, 0)", "graded(5, 1, 5, 6, 7)", "graded(5, 1, 5, 6, 63)");
        refused(SOME, stays, "NO", "without(3)");
        refused(SOME, stays, "-13", "taken(0, 1)", "taken(0, 2)", "taken(0, 3)", "taken(1, 0)", "taken(1, 4)", "taken(2, 6)", "taken(2, 0)");
        long boards = new Script(d).run(SOME).ask("opening(-1, 0)");
        refused(SOME, stays, "-12", "opening(" + boards + ", 0)", "opening(-2, 0)", "opening(MAX, 2)", "opening(MIN, 0)");
        long stacked = new Script(d).run(SOME).ask("stack(-1, 0)");
        refused(SOME, stays, "-12", "stack(" + stacked + ", 0)", "stack(-2, 0)", "stack(MAX, 3)", "stack(MIN, 0)");
        refused(SOME, stays, "-11", "tells(3, 0)", "tells(3, 1)", "tells(3, 2)", "put(3, 0, 1)", "put(3, -1, 1)", "put(3, 40, 1)",
            "copy(3, 0, 0, 0, 1)", "copy(0, 0, 3, 0, 1)", "copy(3, -1, 1, 0, -1)", "copy(0, 3, 3, 0, 1)");
        refused(SOME, stays, "BAD", "tells(2, 0)", "tells(2, 1)", "tells(2, 2)");
        refused(SOME, stays, "-13", "copy(0, 0, 1, 0, 1)", "copy(1, 0, 0, 0, 1)", "copy(0, -1, 1, 0, 1)", "copy(1, 0, 0, 9, 9)", "copy(0, 0, 1, 0, -1)");
        refused(SOME, stays, "-12", "put(0, -1, 9)", "put(0, 3, 9)", "put(1, 12, 9)", "put(2, 40, 9)", "put(2, MIN, 9)", "put(2, MAX, 9)",
            "copy(0, -1, 2, 0, 1)", "copy(0, 0, 2, -1, 1)", "copy(0, 0, 2, 0, -1)", "copy(0, 0, 2, 0, 4)", "copy(0, 1, 2, 0, 3)",
            "copy(0, 3, 2, 0, 1)", "copy(2, 0, 0, 0, 4)", "copy(2, 0, 0, 1, 3)", "copy(2, 38, 0, 0, 3)", "copy(0, 0, 2, 38, 3)",
            "copy(0, 4, 2, 0, 0)", "copy(0, 0, 2, 41, 0)", "copy(0, 1, 0, 2, 2)", "copy(2, MAX, 0, 0, 1)", "copy(2, 0, 0, MAX, 1)",
            "copy(2, 1, 0, 1, MAX)", "copy(2, MAX, 0, MAX, MAX)", "copy(2, MIN, 0, 0, 0)", "copy(2, 0, 0, 0, MIN)");
        refused(SOME, stays, "-14", "sheet(0, 0, -1)", "sheet(1, 1, -1)", "sheet(3, 0, -1)", "sheet(2, 1, MIN)");
    }

    private static void whenFull() {
        List<String> stays = lookAt(FULL);
        refused(FULL, stays, "FULL", "fault(0, 0, 0, 1)", "fault(6, 7, 7, 4)", "order(1, 0, 1, 1)", "order(4, 3, 12, 8)",
            "saw()", "feed(5, 107, 48, 48, 49, 32)", "feed(3, 107, 48, 48, 49, 32)");
        refused(FULL, stays, "BAD", BAD_EVERYWHERE);
        refused(FULL, stays, "BAD", BAD_WITH_A_LOG);
        refused(FULL, stays, "NO", NO_WITH_A_LOG);
        refused(FULL, stays, "-12", "stack(16, 0)", "put(3, 0, 1)", "put(0, 12, 1)", "put(1, 13, 1)", "copy(3, 0, 0, 0, 1)", "copy(0, 0, 3, 0, 1)");
        refused(FULL, stays, "BAD", "tells(1, 0)", "tells(1, 1)", "tells(1, 2)");
    }

    /** Only what the call would add to is full. */
    private static void onlyOneIsFull() {
        String faults = SOME + "fault(0, 1, 0, 1); fault(1, 2, 1, 1); fault(2, 3, 2, 1); fault(3, 4, 3, 1); fault(4, 5, 4, 1)\n";
        refused(faults, lookAt(faults), "FULL", "fault(0, 0, 0, 1)", "fault(6, 7, 7, 4)");
        refused(faults, lookAt(faults), "BAD", "fault(7, 0, 0, 1)", "fault(0, 8, 0, 1)", "fault(0, 0, 8, 1)", "fault(0, 0, 0, 5)");
        String orders = SOME + "order(1, 0, 3, 3); order(2, 2, 1, 1)\n";
        refused(orders, lookAt(orders), "FULL", "order(1, 0, 1, 1)", "order(4, 3, 12, 8)");
        refused(orders, lookAt(orders), "BAD", "order(5, 0, 1, 1)", "order(1, 4, 1, 1)", "order(1, 0, 13, 1)", "order(1, 0, 1, 9)");
        String stack = SOME.replaceFirst("saw\\(\\)", "saw(); log(6, 0, 4); rule(0, 0); rule(6, 2); saw()");
        due("the stack has", new Script(d).run(stack).ask("stack(-1, 0)"), 14);
        due("the opening has", new Script(d).run(stack).ask("opening(-1, 0)"), 5);
        refused(stack, lookAt(stack), "FULL", "saw()");
        for (int size = 36; size <= 40; size++) {
            String tape = SOME.replaceFirst("tape .*", "tape \"" + "k123 l234 h431 r111 o222 t333 s112" + " ".repeat(size - 34) + "\"");
            due("the tape has", new Script(d).run(tape).ask("count(5)"), size);
            for (int n = 41 - size; n <= 5; n++) {
                refused(tape, lookAt(tape), "FULL", "feed(" + n + ", 107, 48, 48, 49, 32)");
                refused(tape, lookAt(tape), "BAD", "feed(" + n + ", 107, 48, 48, 49, 256)", "feed(" + n + ", -1, 48, 48, 49, 32)");
            }
            refused(tape, lookAt(tape), "BAD", "feed(6, 107, 48, 48, 49, 32)", "feed(0, 107, 48, 48, 49, 32)");
        }
    }

    /** By a text that is refused the tape goes, and nothing else. */
    private static void tapeGoesAlone() {
        for (String state : new String[] {SOME, FULL}) {
            String bare = state.replaceAll("tape .*", "");
            List<String> stays = lookAt(bare);
            boolean full = state.equals(FULL);
            String[] wrong = {"", " ", "k01", "k015 ", "k011 x", "x011", " k011 k"};
            long[] due = {-100, -101, -103, -103, -105, -100, -107};
            for (int i = 0; i < wrong.length; i++) {
                refused(bare + "tape \"" + wrong[i] + "\"", stays, "" + due[i], "text()");
            }
            refused(bare + "tape \"k011k011k011k011k011k011k011k011k011\"", stays, "FULL", "text()");
            if (full) {
                refused(bare + "tape \"k011\"", stays, "FULL", "text()");
            } else {
                refused(bare + "tape \"k011k011k011k011k011k011\"", stays, "FULL", "text()");
            }
        }
    }

    /** What is only asked, or thought, changes nothing. */
    private static void onlyAsked() {
        List<String> stays = lookAt(SOME);
        String[] asked = {"told(0, 4)", "taken(2, 5)", "cell(5, 5, 6, 1)", "cell(5, 5, 6, 2)", "board(5, 2, 0)", "graded(5, 2, 2, 3, 9)",
            "worth(5, 2)", "opening(0, 1)", "best(-1)", "best(3)", "bestTurn()", "stack(0, 0)", "met(0)", "met(1)", "without(0)",
            "without(2)", "drawn(7, 8)", "drawn(-1, 0)", "chance(3, 8, 900, 0)", "chance(MAX, 8, 900, 1)", "tells(0, 0)", "tells(1, 1)",
            "tells(0, 2)", "count(6)", "turn(1)", "rule(0, 0)", "copy(0, 0, 0, 0, 3)", "put(0, 1, 2)", "sheet(3, -1, 99)"};
        for (String call : asked) {
            d.part(call + " is only asked");
            Script s = new Script(d).run(SOME);
            s.ask(call);
            dueLook(s, stays, true);
            // Once more where much was asked ahead.
            Script again = new Script(d).run(SOME + "opening(-1, 0); best(-1); met(0); count(6); worth(5, 2)");
            again.ask(call);
            dueLook(again, stays, true);
        }
    }

    /** The opening, and what is told of its boards, whatever is asked of others between. */
    private static void askedBetween() {
        d.part("what is asked of a board changes nothing");
        Script s = new Script(d).run("log(6, 1, 8); rule(0, 0); rule(6, 14); fault(0, 0, 2, 2); fault(3, 2, 3, 1); fault(5, 0, 6, 1); fault(2, 5, 0, 3)");
        long[] was = openingOf(s);
        for (int y = 0; y < 12; y++) {
            for (int n = 1; n <= 4 && y + n <= 12; n++) {
                s.ask("board(" + y + ", " + n + ", 4)");
                long[] is = openingOf(s);
                for (int i = 0; i < was.length; i++) {
                    due("opening behind board(" + y + ", " + n + ", 4)", is[i], was[i]);
                }
            }
        }
    }

    /** Rows and grades of its boards. */
    private static long[] openingOf(Script s) {
        long[] all = new long[10];
        for (int i = 0; i < all.length; i++) {
            all[i] = s.ask("opening(" + i / 2 + ", " + 2 * (i % 2) + ")");
        }
        return all;
    }

    private static List<String> lookAt(String state) {
        d.part("a look");
        return Look.at(new Script(d).run(state), state.contains("image()"));
    }

    private static void refused(String state, List<String> stays, String due, String... calls) {
        for (String call : calls) {
            d.part(call + " is refused");
            Script s = new Script(d).run(state).run(call + " = " + due);
            dueLook(s, stays, state.contains("image()"));
        }
    }

    private static void dueLook(Script s, List<String> stays, boolean image) {
        List<String> seen = Look.at(s, image);
        for (int i = 0; i < Math.min(seen.size(), stays.size()); i++) {
            if (!seen.get(i).equals(stays.get(i))) {
                d.fail("something has changed: " + seen.get(i) + ", was " + stays.get(i));
                return;
            }
        }
        due("what can be seen", seen.size(), stays.size());
    }

    private static void due(String call, long got, long want) {
        d.due(call, got, want);
    }
}
