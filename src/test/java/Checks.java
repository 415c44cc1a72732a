/** What the hand-made tests share: they say what is due, and count what is wrong. */
abstract class Checks {
    static final int NONE = -1;

    private static int wrong;
    static String promise = "";

    static void is(String what, int got, int want) {
        if (got != want) {
            wrong++;
            System.out.println(promise + ": " + what + " answered " + got + ", due is " + want);
        }
    }

    static void is(String what, boolean got, boolean want) {
        is(what, got ? 1 : 0, want ? 1 : 0);
    }

    static void is(String what, String got, String want) {
        if (!got.equals(want)) {
            wrong++;
            System.out.println(promise + ": " + what + " answered\n  " + got + "\ndue is\n  " + want);
        }
    }

    /** Prints how it went; a wrong answer ends the test with 1. */
    static void finish(String whenFine) {
        System.out.println(wrong == 0 ? whenFine : wrong + " answers are wrong");
        if (wrong != 0) {
            System.exit(1);
        }
    }

    static ToolSaints of(String text) {
        ToolSaints x = new ToolSaints();
        if (Tape.year(x, text) == NONE) {
            is("a sound year, fault " + x.fault(0) + " at " + x.fault(1) + " of " + text, NONE, 0);
        }
        return x;
    }

    static void fault(String text, int code, int place) {
        ToolSaints x = new ToolSaints();
        int got = Tape.year(x, text);
        is("year() of " + text, got == NONE ? 1 : 0, code == 0 ? 0 : 1);
        is("fault(0) of " + text, x.fault(0), code);
        is("fault(1) of " + text, x.fault(1), place);
        is("status(1)", x.status(1), code == 0 ? 0 : 1);
    }
}
