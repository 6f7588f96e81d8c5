import java.util.Arrays;

/** The edges that the document names of what is only thought: promises 23 to 26. */
public final class ThoughtEdgesTest {
    private static final Due d = new Due();
    private static final int MIN = Integer.MIN_VALUE, MAX = Integer.MAX_VALUE;

    public static void main(String[] args) {
        without();
        byTheRules();
        drawnNumbers();
        drawnNumbersAnew();
        eightInAll();
        chanceNumbers();
        atLeast();
        seeds();
        lowestTerms();
        tellsNumbers();
        tellsLength();
        tellsOtherwise();
        tellsEach();
        tellsTurns();
        tellsKerfs();
        d.end("ThoughtEdgesTest");
    }

    private static void say(String words, String... texts) {
        Script.sentence(d, words, texts);
    }

    private static void without() {
        say("23: NO: no such FAULT", """
            without(0) = NO; log(6, 0, 8); without(0) = NO; without(-1) = NO; fault(5, 0, 0, 4); fault(3, 2, 0, 4); without(-1) = NO; without(2) = NO
            without(MIN) = NO; without(MAX) = NO; heal(1); without(1) = NO; without(0) = 5472; saw(); without(0) = NO
            """);
        say("23: what was thought of before plays no part", """
            log(6, 0, 8); fault(5, 0, 0, 4); drawn(1, 0); heal(0); fault(3, 2, 0, 4); without(0) = 5472; fault(0, 0, 0, 1); without(0)
            heal(1); without(0) = 5472; drawn(1, 8)
            without(0) = 5472; heal(0); drawn(1, 0) = 5472; best(0) = 5472
            """);
        d.part("23: WORTH of the BEST OPENING, were a FAULT none");
        for (int gone = 0; gone < 8; gone++) {
            Script s = new Script(d).run("log(6, 1, 8); turn(1)");
            Script same = new Script(d).run("log(6, 1, 8); turn(1)");
            for (int f = 0; f < 8; f++) {
                String call = "fault(" + f % 7 + ", " + 3 * f % 8 + ", " + f + ", " + (1 + f % 4) + ")";
                s.ask(call);
                if (f != gone) {
                    same.ask(call);
                }
            }
            long had = s.ask("best(1)");
            s.due("without(" + gone + ")", same.ask("best(1)"));
            s.due("best(1)", had);
            s.due("count(0)", 8);
        }
    }

    private static void byTheRules() {
        d.part("23 .. 25: WORTH of the BEST OPENING, by the RULES that there are");
        String fault = "log(6, 1, 8); turn(1); fault(4, 0, 2, 3)\n";
        for (int kerf = 0; kerf <= 2; kerf++) {
            for (int save = 0; save <= 1; save++) {
                for (int thick = 0; thick <= 30; thick += 6) {
                    String rules = "rule(0, " + kerf + "); rule(1, " + save + "); rule(6, " + thick + "); rule(2, 7); rule(3, 5)\n";
                    long bare = new Script(d).run(rules + "log(6, 1, 8); turn(1)").ask("best(1)");
                    long had = new Script(d).run(rules + fault).ask("best(1)");
                    long more = new Script(d).run(rules + fault + faults(8, 2)).ask("best(1)");
                    Script s = new Script(d).run(rules + fault);
                    s.due("without(0)", bare);
                    s.due("drawn(8, 0)", had);
                    s.due("drawn(8, 2)", more);
                    s.due("chance(8, 1, " + more + ", 0)", 1);
                    s.due("chance(8, 1, " + (more + 1) + ", 0)", 0);
                    s.run("rule(0, " + kerf + ") = " + kerf + "; rule(6, " + thick + ") = " + thick + "; count(0) = 1; count(4) = 1; best(1) = " + had);
                }
            }
        }
    }

    private static void drawnNumbers() {
        say("24: n (0 .. 8)", """
            log(6, 0, 8); drawn(1, -1) = NO; drawn(1, 0) = 5472; drawn(1, 9) = NO; drawn(1, MIN) = NO; drawn(1, MAX) = NO
            drawn(MIN, -1) = NO; drawn(MAX, 9) = NO
            """);
        say("24: NO: no LOG", "drawn(1, 0) = NO; drawn(1, 1) = NO; drawn(1, 9) = NO; log(6, 0, 8); saw(); drawn(1, 0) = NO");
    }

    private static int[] draw(int seed, int n) {
        long z = seed & 0xffffffffL;
        int[] numbers = new int[4 * n];
        int[] of = {7, 8, 8, 4};
        for (int i = 0; i < numbers.length; i++) {
            z = (z * 1103515245L + 12345L) % (1L << 32);
            numbers[i] = (int) (z / 512 % of[i % 4]) + (i % 4 == 3 ? 1 : 0);
        }
        return numbers;
    }

    private static String faults(int seed, int n) {
        int[] v = draw(seed, n);
        StringBuilder calls = new StringBuilder();
        for (int i = 0; i < n; i++) {
            calls.append("fault(").append(v[4 * i]).append(", ").append(v[4 * i + 1]).append(", ").append(v[4 * i + 2]).append(", ").append(v[4 * i + 3]).append(")\n");
        }
        return calls.toString();
    }

    private static void drawnNumbersAnew() {
        d.part("24: z an int, SEED at first, anew for each number; KIND (z >>> 9) % 7, ANGLE % 8, SLICE % 8, SIZE % 4 and 1");
        int[] seeds = {0, 1, -1, 2, -2, 12345, MIN, MIN + 1, MAX, MAX - 1, 1 << 30, -(1 << 30), 512, 511};
        for (int seed : seeds) {
            for (int n = 0; n <= 8; n++) {
                long want = new Script(d).run("log(6, 1, 8); turn(3)\n" + faults(seed, n)).ask("best(3)");
                new Script(d).run("log(6, 1, 8); turn(3)").due("drawn(" + seed + ", " + n + ")", want);
            }
        }
    }

    private static void eightInAll() {
        d.part("24: n FAULTS more (8 in all at most; the rest is none)");
        for (int had = 0; had <= 8; had++) {
            for (int n = 0; n <= 8; n++) {
                String log = "log(5, 1, 8)\n" + faults(77, had);
                long want = new Script(d).run(log + faults(4, Math.min(n, 8 - had))).ask("best(0)");
                Script s = new Script(d).run(log);
                s.due("drawn(4, " + n + ")", want);
                s.due("count(0)", had);
            }
        }
        d.part("25: with 2 FAULTS, 8 in all at most");
        for (int had = 5; had <= 8; had++) {
            String log = "log(5, 1, 8)\n" + faults(77, had);
            long worth = new Script(d).run(log + faults(4, Math.min(2, 8 - had))).ask("best(0)");
            new Script(d).run(log + "chance(4, 1, " + worth + ", 0) = 1; chance(4, 1, " + (worth + 1) + ", 0) = 0");
        }
    }

    private static void chanceNumbers() {
        say("25: m seeds (1 .. 8)", """
            log(6, 0, 8); chance(1, 0, 0, 1) = BAD; chance(1, 1, 0, 1) = 1; chance(1, 8, 0, 1) = 1; chance(1, 9, 0, 1) = BAD
            chance(1, -1, 0, 1) = BAD
            chance(1, MIN, 0, 1) = BAD; chance(1, MAX, 0, 1) = BAD
            """);
        say("25: worth below 0", """
            log(6, 0, 8); chance(1, 1, -1, 0) = BAD; chance(1, 1, 0, 0) = 1; chance(1, 1, MIN, 0) = BAD; chance(1, 1, MAX, 0) = 0
            chance(1, 1, MAX, 1) = 1
            """);
        say("25: part 0 above, 1 below the line", """
            log(6, 0, 8); chance(1, 1, 0, -1) = BAD; chance(1, 1, 0, 0) = 1; chance(1, 1, 0, 1) = 1; chance(1, 1, 0, 2) = BAD
            chance(1, 1, 0, MIN) = BAD; chance(1, 1, 0, MAX) = BAD
            """);
        say("25: STATE ahead of BAD", """
            chance(1, 1, 1, 0) = STATE; chance(1, 0, 1, 0) = STATE; chance(1, 9, -1, 2) = STATE; log(6, 0, 8); saw()
            chance(1, 1, 0, 0) = STATE
            """);
    }

    private static void atLeast() {
        d.part("25: those whose WORTH is at least a told one");
        for (int seed : new int[] {0, 5, -9, MAX, MIN}) {
            Script s = new Script(d).run("log(6, 1, 7); fault(0, 0, 1, 1)");
            long worth = s.ask("drawn(" + seed + ", 2)");
            d.due("it is worth something", worth > 0 ? 1 : 0, 1);
            s.due("chance(" + seed + ", 1, " + worth + ", 0)", 1);
            s.due("chance(" + seed + ", 1, " + (worth - 1) + ", 0)", 1);
            s.due("chance(" + seed + ", 1, " + (worth + 1) + ", 0)", 0);
        }
        say("25: of a log that is worth nothing", """
            log(6, 0, 8); rule(6, 0); chance(1, 8, 0, 0) = 1; chance(1, 8, 0, 1) = 1; chance(1, 8, 1, 0) = 0; chance(1, 8, 1, 1) = 1
            """);
    }

    private static void seeds() {
        d.part("25: m seeds, SEED and each 1 more (an int)");
        for (int seed : new int[] {0, 40, -4, MAX - 7, MAX - 3, MAX, MIN}) {
            for (int m = 1; m <= 8; m++) {
                Script s = new Script(d).run("log(6, 1, 7)");
                long last = s.ask("drawn(" + (seed + m - 1) + ", 2)");
                int hits = 0;
                for (int i = 0; i < m; i++) {
                    hits += s.ask("drawn(" + (seed + i) + ", 2)") >= last ? 1 : 0;
                }
                dueTerms(s, seed, m, last, hits);
            }
        }
    }

    private static void dueTerms(Script s, int seed, int m, long worth, int hits) {
        int common = 1;
        for (int by = 2; by <= m; by++) {
            common = hits % by == 0 && m % by == 0 ? by : common;
        }
        s.due("chance(" + seed + ", " + m + ", " + worth + ", 0)", hits / common);
        s.due("chance(" + seed + ", " + m + ", " + worth + ", 1)", m / common);
    }

    private static void lowestTerms() {
        d.part("25: in lowest terms");
        for (int m = 1; m <= 8; m++) {
            boolean[] seen = new boolean[9];
            for (int seed = 0; seed < 40; seed++) {
                Script s = new Script(d).run("log(6, 1, 7)");
                long[] worths = new long[m];
                for (int i = 0; i < m; i++) {
                    worths[i] = s.ask("drawn(" + (100 * seed + i) + ", 2)");
                }
                Arrays.sort(worths);
                // None is worth more than the best; each of the others may be the least that is asked.
                dueTerms(s, 100 * seed, m, worths[m - 1] + 1, 0);
                seen[0] = true;
                for (int k = 0; k < m; k++) {
                    if (k == 0 || worths[k] > worths[k - 1]) {
                        dueTerms(s, 100 * seed, m, worths[k], m - k);
                        seen[m - k] = true;
                    }
                }
            }
            for (int hits = 0; hits <= m; hits++) {
                d.due("asked of " + m + " for " + hits, seen[hits] ? 1 : 0, 1);
            }
        }
    }

    private static void tellsNumbers() {
        say("26: STATE; BAD; -11, in this order", """
            tells(0, 0) = STATE; tells(4, 0) = STATE; tells(0, 3) = STATE; sheet(0, 0, 13); tells(0, 0) = STATE
            log(6, 0, 4); tells(4, 0) = BAD; tells(-1, 0) = BAD; tells(1, 3) = BAD; tells(1, -1) = BAD; tells(1, 0) = -11
            tells(1, 1) = -11; tells(1, 2) = -11
            tells(0, 3) = BAD; tells(0, 0) = BAD; sheet(0, -1, 0); tells(0, 0) = -11; tells(0, 1) = -11; tells(0, 2) = -11
            sheet(3, 0, 0); tells(3, 0) = 0; tells(MIN, 0) = BAD; tells(MAX, 0) = BAD; tells(3, MIN) = BAD; tells(3, MAX) = BAD
            saw(); tells(3, 0) = STATE
            """);
    }

    private static void tellsLength() {
        d.part("26: BAD: it tells more than 12");
        for (int sort = 0; sort <= 1; sort++) {
            for (int n = 0; n <= 40; n++) {
                Script s = new Script(d).run("log(6, 0, 4); rule(0, 0); rule(6, 2); sheet(2, " + sort + ", " + n + ")");
                s.due("tells(2, 0)", n > 12 ? -2 : n < 12 ? n : -1);
                s.due("tells(2, 1)", n > 12 ? -2 : n < 12 ? 0 : 15);
                s.due("tells(2, 2)", n > 12 ? -2 : n == 12 ? 1 : n == 6 ? 2 : n == 4 ? 4 : 0);
            }
        }
    }

    private static void tellsOtherwise() {
        d.part("26: the first that is otherwise (one too many, too few, too); NONE");
        for (int boards : new int[] {0, 1, 3, 12}) {
            String log = boards == 0 ? "log(6, 0, 4); rule(6, 0)" : boards == 1 ? "log(2, 0, 1)" : boards == 3 ? "log(6, 0, 4)" : "log(6, 0, 4); rule(0, 0); rule(6, 2)";
            for (int n = 0; n <= 12; n++) {
                Script s = new Script(d).run(log + "\nsheet(1, 1, " + n + ")");
                s.due("opening(-1, 0)", boards);
                s.due("tells(1, 0)", n == boards ? -1 : Math.min(n, boards));
                s.due("tells(1, 1)", n == boards ? 15 : 0);
                for (int at = n - 1; at >= 0; at--) {
                    for (String v : new String[] {"1", "-1", "4", "MIN", "MAX"}) {
                        s.ask("put(1, " + at + ", " + v + ")");
                        s.due("tells(1, 0)", Math.min(at, boards));
                    }
                }
            }
        }
        say("26: GRADES 1, 2, 3 told, and those beside them", """
            log(2, 0, 8); rule(1, 0); rule(0, 2); rule(6, 4); rule(4, 6); sheet(0, 0, 1)
            fault(6, 2, 7, 1); tells(0, 0) = 0; put(0, 0, 1); tells(0, 0) = NONE; put(0, 0, 2); tells(0, 0) = 0; heal(0)
            fault(0, 0, 0, 1); tells(0, 0) = NONE; put(0, 0, 1); tells(0, 0) = 0; put(0, 0, 3); tells(0, 0) = 0; heal(0)
            fault(5, 0, 7, 1); tells(0, 0) = NONE; put(0, 0, 2); tells(0, 0) = 0; put(0, 0, 4); tells(0, 0) = 0; put(0, 0, 4294967299)
            tells(0, 0) = 0
            sheet(0, 1, 1); put(0, 0, 4294967299); tells(0, 0) = NONE
            """);
    }

    private static void tellsEach() {
        d.part("26: GRADES that are not all the same: 0, 0, 1, 0, 0");
        for (int sheet = 0; sheet < 4; sheet++) {
            String told = "log(6, 0, 8); tape \"k022 h231 o061\"; text() = 3; turn(1); rule(0, 0); sheet(" + sheet + ", " + sheet % 2 + ", 5)\n";
            Script s = new Script(d).run(told);
            s.due("tells(" + sheet + ", 0)", 2);
            s.due("tells(" + sheet + ", 1)", 0);
            s.due("tells(" + sheet + ", 2)", 0);
            s.ask("put(" + sheet + ", 2, 1)");
            s.due("tells(" + sheet + ", 0)", -1);
            s.due("tells(" + sheet + ", 1)", 10);
            s.due("tells(" + sheet + ", 2)", 1);
            for (int at = 0; at < 5; at++) {
                s.ask("put(" + sheet + ", " + at + ", " + (at == 2 ? 0 : 1) + ")");
                s.due("tells(" + sheet + ", 0)", at);
                s.due("tells(" + sheet + ", 1)", 0);
                s.ask("put(" + sheet + ", " + at + ", " + (at == 2 ? 1 : 0) + ")");
            }
            s.due("tells(" + sheet + ", 0)", -1);
        }
    }

    private static void tellsTurns() {
        say("26: TURNS (bits) by which all would be so", """
            log(6, 0, 8); tape "k022 h231 o061"; text() = 3; turn(2); sheet(0, 1, 3); tells(0, 0) = NONE; tells(0, 1) = 5; turn(1)
            tells(0, 0) = 2; tells(0, 1) = 5
            sheet(0, 1, 2); tells(0, 0) = NONE; tells(0, 1) = 10; turn(0); tells(0, 0) = 2; tells(0, 1) = 10; sheet(0, 1, 4)
            tells(0, 1) = 0; count(4) = 0
            """);
    }

    private static void tellsKerfs() {
        say("26: KERFS (bits 0 .. 2), as the LOG lies", """
            log(6, 0, 4); rule(6, 0); sheet(0, 0, 0); tells(0, 2) = 7; tells(0, 0) = NONE; sheet(0, 0, 1); tells(0, 2) = 0; rule(6, 2)
            sheet(0, 0, 12); tells(0, 2) = 1; sheet(0, 0, 6); tells(0, 2) = 2; sheet(0, 0, 4); tells(0, 2) = 4; rule(0, 1) = 1; rule(6, 16)
            sheet(0, 0, 3); tells(0, 2) = 1; sheet(0, 0, 2); tells(0, 2) = 6; rule(0, 2) = 1; tells(0, 2) = 6; rule(0, 2) = 2
            """, """
            log(6, 0, 8); tape "k022 h231 o061"; text() = 3; sheet(0, 1, 3); tells(0, 2) = 6; turn(1); sheet(0, 1, 2); put(0, 0, 0)
            tells(0, 0) = NONE; rule(0, 1) = 1
            """, """
            log(6, 0, 8); tape "k022 h231 o061"; text() = 3; sheet(0, 1, 2); tells(0, 2) = 0; sheet(1, 1, 3); tells(1, 2) = 6
            turn(1); tells(0, 2) = 6; tells(1, 2) = 0; turn(2); tells(0, 2) = 0; tells(1, 2) = 6; turn(3); tells(0, 2) = 6
            sheet(2, 0, 5); put(2, 2, 1); tells(2, 2) = 1; turn(0); tells(2, 2) = 0
            """);
    }
}
