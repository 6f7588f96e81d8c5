/** Counts the answers that are not as they are due. */
final class Due {
    private int asked = 0;
    private int wrong = 0;
    private String part = "";

    void part(String name) {
        part = name;
    }

    void due(String call, long got, long want) {
        asked++;
        if (got != want) {
            wrong++;
            System.out.println(part + ": " + call + " answered " + got + ", due is " + want);
        }
    }

    void fail(String words) {
        asked++;
        wrong++;
        System.out.println(part + ": " + words);
    }

    /** Ends with exit code 1 if an answer was wrong. */
    void end(String test) {
        System.out.println(test + ": " + asked + " asked, " + wrong + " wrong");
        if (wrong != 0) {
            System.exit(1);
        }
    }
}
