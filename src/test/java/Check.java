/** Counts answers that are not as due; a test ends with exit code 1 if there was one. */
final class Check {
    private static int wrong = 0;

    private Check() {
    }

    static void due(String what, long got, long want) {
        if (got != want) {
            wrong(what + " answered " + got + ", due is " + want);
        }
    }

    static void holds(String what, boolean fact) {
        if (!fact) {
            wrong(what + " does not hold");
        }
    }

    static void wrong(String what) {
        wrong++;
        System.out.println(what);
    }

    /** A finding is answered, and it is the one that is due. */
    static void finds(TrailerYards x, String what, long got, int finding) {
        due(what, got, TrailerYards.FINDING);
        due(what + ", finding()", x.finding(), finding);
    }

    /** Lays out a new row. */
    static void row(TrailerYards x, int r, int... places) {
        due("row", x.row(r, places.length), places.length);
        for (int i = 0; i < places.length; i++) {
            due("lay", x.lay(r, i, places[i]), 1);
        }
    }

    /** Writes a new text. */
    static void text(TrailerYards x, int t, String signs) {
        due("text", x.text(t, signs.length()), signs.length());
        for (int i = 0; i < signs.length(); i++) {
            due("put", x.put(t, i, signs.charAt(i)), 1032);
        }
    }

    static void end() {
        if (wrong != 0) {
            System.out.println(wrong + " answers are not as due");
            System.exit(1);
        }
    }
}
