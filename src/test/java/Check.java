/** Counts and prints answers that are not as due; a test ends with finish(). */
final class Check {
    private static int asked = 0;
    private static int wrong = 0;

    private Check() {
    }

    static void same(String what, long got, long due) {
        asked++;
        if (got != due) {
            wrong++;
            if (wrong <= 50) {
                System.out.println(what + " answered " + got + ", due is " + due);
            }
        }
    }

    static void is(String what, boolean got) {
        same(what, got ? 1 : 0, 1);
    }

    static void not(String what, boolean got) {
        same(what, got ? 1 : 0, 0);
    }

    /** A call that was to be refused: its answer is NONE and STATUS tells why. */
    static void refused(String what, EchoJars x, long got, int status) {
        same(what, got, EchoJars.NONE);
        same(what + ": status", x.status(), status);
    }

    static void denied(String what, EchoJars x, boolean got, int status) {
        not(what, got);
        same(what + ": status", x.status(), status);
    }

    static void fine(String what, EchoJars x, long got, long due) {
        same(what, got, due);
        same(what + ": status", x.status(), 0);
    }

    static void done(String what, EchoJars x, boolean got) {
        is(what, got);
        same(what + ": status", x.status(), 0);
    }

    static void fraction(String what, EchoJars x, long top, long bottom) {
        same(what + ": top", x.top(), top);
        same(what + ": bottom", x.bottom(), bottom);
    }

    static void finish() {
        System.out.println(asked + " answers, " + wrong + " wrong");
        if (asked == 0 || wrong != 0) {
            System.exit(1);
        }
    }
}
