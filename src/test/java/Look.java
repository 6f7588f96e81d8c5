import java.util.ArrayList;
import java.util.List;

/**
 * All that can be seen of an object by its calls; it is taken apart by that. Calls that would be refused are kept for the
 * end, so that what a refusal does wrong can't be done by the look itself before it is seen.
 */
final class Look {
    // The long one is looked at ahead of those that are looked at by refused calls, too.
    private static final int[] SHEETS = {0, 2, 1, 3};
    // Of a sheet with more numbers than can be told: 13 have two of these, 40 all but the last.
    private static final int[] WINDOWS = {0, 1, 2, 12, 24, 28, 29};

    private final Script s;
    private final List<String> seen = new ArrayList<>();

    private Look(Script s) {
        this.s = s;
    }

    static List<String> at(Script s, boolean image) {
        Look look = new Look(s);
        look.all(image);
        return look.seen;
    }

    private long see(String call) {
        long got = s.ask(call);
        seen.add(call + " = " + got);
        return got;
    }

    private void all(boolean image) {
        state();
        tape();
        orders();
        if (image) {
            see("back()");
            state();
            orders();
        }
        s.run("log(6, 0, 4); rule(0, 0); rule(1, 1); rule(2, 9); rule(6, 2)");
        for (int sheet : SHEETS) {
            sheet(sheet);
        }
    }

    private void state() {
        for (int what = 0; what < 7; what++) {
            see("count(" + what + ")");
        }
        faults();
        if (s.ask("count(3)") > 0) {
            sawn();
        }
        stack();
        see("met(0)");
        see("met(1)");
        for (int what = 0; what < 7; what++) {
            see("rule(" + what + ", 0)");
        }
        s.run("rule(0, 0); rule(1, 1); rule(2, 9); rule(3, 6); rule(4, 3); rule(5, 1); rule(6, 2)");
    }

    private void faults() {
        long faults = s.ask("count(0)");
        for (int fault = 0; fault < faults; fault++) {
            for (int what = 0; what < 4; what++) {
                see("told(" + fault + ", " + what + ")");
            }
        }
    }

    private void sawn() {
        long boards = see("opening(-1, 0)");
        for (int k = 0; k < boards; k++) {
            see("opening(" + k + ", 0)");
            see("opening(" + k + ", 1)");
        }
        for (int turn = -1; turn < 4; turn++) {
            see("best(" + turn + ")");
        }
        see("worth(0, 1)");
        see("worth(5, 2)");
    }

    private void stack() {
        long boards = see("stack(-1, 0)");
        for (int k = 0; k < boards; k++) {
            for (int what = 0; what < 4; what++) {
                see("stack(" + k + ", " + what + ")");
            }
        }
    }

    private void tape() {
        s.run("log(6, 0, 4)");
        if (s.ask("count(5)") > 0) {
            see("text()");
            faults();
        }
    }

    /** The orders are seen by what they get of the boards that are there, and of many thin ones. */
    private void orders() {
        see("serve()");
        stack();
        see("count(2)");
        if (s.ask("stack(-1, 0)") <= 4) {
            s.run("log(6, 0, 4)");
            see("saw()");
            see("met(0)");
            see("met(1)");
            see("serve()");
            stack();
        }
    }

    /** The log that lies here has an opening of twelve boards, all of grade 0: which items are not 0, how many there are. */
    private void sheet(int sheet) {
        boolean many = sheet > 0 && s.ask("copy(" + sheet + ", 12, " + sheet + ", 12, 1)") == 1;
        long otherwise = many ? -2 : see("tells(" + sheet + ", 0)");
        while (otherwise >= 0 && see("put(" + sheet + ", " + otherwise + ", 0)") == 1) {
            otherwise = see("tells(" + sheet + ", 0)");
        }
        if (many) {
            s.run("sheet(0, 0, 12)");
            for (int from : WINDOWS) {
                see("copy(" + sheet + ", " + from + ", 0, 0, 12)");
                see("tells(0, 0)");
            }
        } else if (otherwise >= -1) {
            see("put(" + sheet + ", 0, 4294967296)");
            see("tells(" + sheet + ", 0)");
        }
    }
}
