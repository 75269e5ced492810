/** Compares answers with what is due, and ends a test with exit code 1 when one was wrong. */
final class Due {
    private static final int SHOWN = 50;
    private static int wrong = 0;
    private static int asked = 0;

    private Due() {
    }

    static void same(String what, long got, long want) {
        asked++;
        if (got != want) {
            wrong++;
            if (wrong <= SHOWN) {
                System.out.println(what + " answered " + got + ", due is " + want);
            }
        }
    }

    static void same(String what, boolean got, boolean want) {
        same(what, got ? 1 : 0, want ? 1 : 0);
    }

    static int wrong() {
        return wrong;
    }

    static void end() {
        if (wrong != 0) {
            System.out.println(wrong + " of " + asked + " answers are not as due");
            System.exit(1);
        }
        System.out.println("all " + asked + " answers are as due");
    }
}
