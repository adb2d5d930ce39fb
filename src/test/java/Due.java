/** Compares answers with those that are due, and ends a test with exit code 1 if one is not. */
final class Due {
    static final long NONE = -1000000000000000000L;
    private static final int MOST_LINES = 40;
    private static int right;
    private static int wrong;

    private Due() {
    }

    static void is(String what, long got, long want) {
        if (got == want) {
            right++;
        } else {
            fail(what + " answered " + got + ", due is " + want);
        }
    }

    static void yes(String what, boolean got) {
        is(what, got ? 1 : 0, 1);
    }

    static void no(String what, boolean got) {
        is(what, got ? 1 : 0, 0);
    }

    static void none(String what, long got) {
        is(what, got, NONE);
    }

    static void fail(String what) {
        wrong++;
        if (wrong <= MOST_LINES) {
            System.out.println(what);
        }
    }

    static void finish(String test) {
        System.out.println(test + ": " + right + " answers as due, " + wrong + " not");
        if (wrong != 0 || right == 0) {
            System.exit(1);
        }
    }
}
