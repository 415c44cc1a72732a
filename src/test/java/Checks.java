/** What the hand-made tests share: they say what is due, and count what is wrong. */
abstract class Checks {
    static final int NONE = -1;
    /** Two KINDS, three TOOLS, two HANDS, two JOBS; saws rest on 1, 4, 7, axes on 0, 5, 10. */
    static final String YARD = "kind saw rests 1 of 3;kind axe rests 0 of 5;"
            + "tool sa is saw worn 10;tool sb is saw worn 4;tool ax is axe worn 0;hand pip;hand quin;"
            + "knows pip sa 3;knows quin sb 2;knows quin ax 5;job bed by 1 does saw 3 axe 2;job door by 0 does saw 5 saw 6;";

    private static int wrong;
    static String promise = "";

    static void is(String what, int got, int want) {
        if (got != want) {
            wrong++;
            System.out.println(promise + ": " + what + " answered " + got + ", due is " + want);
        }
    }

    static void is(String what, boolean got, boolean want) {
        is(what, got ? 1 : 0, want ? 1 : 0);
    }

    static void is(String what, String got, String want) {
        if (!got.equals(want)) {
            wrong++;
            System.out.println(promise + ": " + what + " answered\n  " + got + "\ndue is\n  " + want);
        }
    }

    /** Prints how it went; a wrong answer ends the test with 1. */
    static void finish(String whenFine) {
        System.out.println(wrong == 0 ? whenFine : wrong + " answers are wrong");
        if (wrong != 0) {
            System.exit(1);
        }
    }

    static ToolSaints of(String text) {
        ToolSaints x = new ToolSaints();
        if (Tape.year(x, text) == NONE) {
            is("a sound year, fault " + x.fault(0) + " at " + x.fault(1) + " of " + text, NONE, 0);
        }
        return x;
    }

    static void fault(String text, int code, int place) {
        ToolSaints x = new ToolSaints();
        int got = Tape.year(x, text);
        is("year() of " + text, got == NONE ? 1 : 0, code == 0 ? 0 : 1);
        is("fault(0) of " + text, x.fault(0), code);
        is("fault(1) of " + text, x.fault(1), place);
        is("status(1)", x.status(1), code == 0 ? 0 : 1);
    }

    /** A form again and again, with the NAMES na, nb, .. in place of #. */
    static String many(int count, String form) {
        StringBuilder text = new StringBuilder();
        for (int i = 0; i < count; i++) {
            text.append(form.replace("#", "n" + (char) ('a' + i)));
        }
        return text.toString();
    }

    /** What a TOOL at 0 is worn by, on DAY 0, with HOURS 8, known 4. */
    static int sum(String sum) {
        ToolSaints x = of("kind k rests 1 of 5;tool t is k worn 0;hand h;knows h t 4;job j by 9 does k 8;wears " + sum + ";");
        x.days(1);
        return x.tool(0, 1);
    }

    /** Whether the TOOL, at 3, works on that DAY. */
    static boolean test(String test) {
        return of("kind k rests 1 of 5;tool t is k worn 3;hand h;knows h t 4;job j by 9 does k 8;may " + test + ";").days(1) == 1;
    }
}
