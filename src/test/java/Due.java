/** Compares answers with what is due, prints those that differ, and ends the test program. */
final class Due {
    private static final int MOST_PRINTED = 40;
    private static int asked = 0;
    private static int wrong = 0;

    private Due() {
    }

    static void equal(String what, long got, long want) {
        asked++;
        if (got == want) {
            return;
        }
        wrong++;
        if (wrong <= MOST_PRINTED) {
            System.out.println(what + " answered " + got + ", due is " + want);
        }
    }

    static void yes(String what, boolean got) {
        equal(what, got ? 1 : 0, 1);
    }

    static void no(String what, boolean got) {
        equal(what, got ? 1 : 0, 0);
    }

    /** now(0), now(1) and so on, as many as are told. */
    static void now(String when, PictureBeats x, int... want) {
        for (int what = 0; what < want.length; what++) {
            equal(when + ": now(" + what + ")", x.now(what), want[what]);
        }
    }

    /** A ROW from X 0 on, as many as are told. */
    static void shown(String when, PictureBeats x, int row, int... want) {
        for (int at = 0; at < want.length; at++) {
            equal(when + ": shown(" + at + ", " + row + ")", x.shown(at, row), want[at]);
        }
    }

    static void same(String what, String got, String want) {
        asked++;
        if (!got.equals(want)) {
            wrong++;
            System.out.println(what + " differs:\n" + got + "\ndue is\n" + want);
        }
    }

    static int wrongSoFar() {
        return wrong;
    }

    static void end() {
        System.out.println(wrong == 0 ? asked + " answers, all as due" : wrong + " of " + asked + " answers are not as due");
        if (wrong != 0 || asked == 0) {
            System.exit(1);
        }
    }
}
