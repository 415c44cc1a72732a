/** For each promise of the document its ordinary answers, its edges and its refusals, worked out by hand. */
public final class PromiseTest extends Checks {
    /** One of each; the JOB has four STEPS. */
    private static final String LONE = "kind k rests 0 of 30;tool t is k worn 0;hand h;job j by 0 does k 1 k 1 k 1 k 1;";

    private PromiseTest() {
    }

    public static void main(String[] args) {
        newObject();
        feedAndEnd();
        years();
        grammarFaults();
        nameFaults();
        numberFaults();
        depthFaults();
        tooMany();
        hasCounts();
        names();
        lists();
        daysByHand();
        wearAndSmith();
        ruleLanguage();
        ahead();
        orders();
        moves();
        makeshifts();
        hangsAndGuards();
        loans();
        shavings();
        dayActs();
        chances();
        smallActs();
        undoing();
        kept();
        images();
        imageRefusals();
        statuses();
        finish("all promises hold");
    }

    private static void newObject() {
        promise = "1 a new object";
        ToolSaints x = new ToolSaints();
        is("NONE", ToolSaints.NONE, NONE);
        for (int what = 0; what < 12; what++) {
            is("has(" + what + ")", x.has(what), 0);
        }
        is("the seed", x.has(12), 1);
        is("fault(0)", x.fault(0), 0);
        is("fault(1)", x.fault(1), NONE);
        is("octet(0)", x.octet(0), NONE);
        is("when(0)", x.when(0), NONE);
        is("kept(0, 0)", x.kept(0, 0), NONE);
        is("later(100, NONE)", x.later(100, NONE), 0);
        is("days(100)", x.days(100), 0);
        is("has(4)", x.has(4), 100);
    }

    private static void feedAndEnd() {
        promise = "2 feed";
        ToolSaints x = new ToolSaints();
        is("feed", x.feed(0x6b696e64, 0x20792072, 0x65737473, 0x2031206f, 0x6620323b), 20);
        is("year", x.year(), 1);
        is("the highest byte is the first", x.letter(0, 0, 0), 25);
        is("the tape went", x.feed(-1, -1, -1, -1, -1), 20);
        for (int i = 2; i <= 80; i++) {
            is("feed", x.feed(1, 2, 3, 4, 5), 20 * i);
        }
        is("the 81st feed", x.feed(1, 2, 3, 4, 5), NONE);
        is("status(0)", x.status(0), 1);
        promise = "3 end";
        is("end(1601)", x.end(1601), false);
        is("end(-1)", x.end(-1), false);
        is("end(MIN)", x.end(Integer.MIN_VALUE), false);
        is("status(0)", x.status(0), 4);
        is("end(1600)", x.end(1600), true);
        is("end(1581)", x.end(1581), true);
        is("20 more do not fit", x.feed(0, 0, 0, 0, 0), NONE);
        is("end(1580)", x.end(1580), true);
        is("20 more fit", x.feed(0, 0, 0, 0, 0), 1600);
        is("end(0)", x.end(0), true);
        is("end(1)", x.end(1), false);
    }

    private static void years() {
        promise = "4 year";
        ToolSaints x = new ToolSaints();
        is("an empty text", x.year(), 0);
        is("blanks alone", Tape.year(x, " \n "), 0);
        is("year", Tape.year(x, YARD), 12);
        is("blanks where one likes", Tape.year(x, "\n kind\nk rests 0  of 2 ; fine\n7;\n"), 2);
        is("KINDS of the newest", x.has(0), 1);
        is("JOBS of the newest", x.has(3), 0);
        Tape.year(x, YARD);
        x.seed(77);
        x.days(4);
        x.hold(0, 1);
        Tape.shavings(x, 0, 0);
        is("a fault", Tape.year(x, "kind"), NONE);
        is("all stays: DAY", x.has(4), 4);
        is("all stays: HELD", x.has(7), 1);
        is("all stays: acts", x.has(11), 2);
        is("all stays: shavings", x.when(0), 0);
        is("refused", x.status(1), 1);
        is("the tape went", x.end(1), false);
        Tape.year(x, YARD);
        is("DAY 0", x.has(4), 0);
        is("nothing HELD", x.has(7), 0);
        is("no acts", x.has(11), 0);
        is("nothing kept", x.has(10), 0);
        is("no shavings", x.when(0), NONE);
        is("no fines", x.has(5), 0);
        is("no steps done", x.job(1, 2), 0);
        is("worn as told", x.tool(1, 1), 4);
        is("the seed stays", x.has(12), 77);
        promise = "5 fault";
        is("without one", x.fault(0), 0);
        is("its place", x.fault(1), NONE);
        Tape.year(x, "kind");
        is("fault(0)", x.fault(0), 1);
        is("fault(1)", x.fault(1), 4);
        is("fault(2)", x.fault(2), NONE);
        is("fault(-1)", x.fault(-1), NONE);
        Tape.year(x, "");
        is("the latest year counts", x.fault(0), 0);
        is("the latest year's place", x.fault(1), NONE);
    }

    private static void grammarFaults() {
        promise = "5 fault 1";
        fault("kin", 1, 0);
        fault("kind k ", 1, 7);
        fault("kind k rest 1", 1, 7);
        fault("kind k rests5 of 6;", 1, 12);
        fault("kind k rests 1of 6;", 1, 14);
        fault("fine 3", 1, 6);
        fault("fine 3;;", 1, 7);
        fault("fine;", 1, 4);
        fault("fine -1;", 1, 5);
        fault("\tfine 1;", 1, 0);
        fault("Kind k rests 0 of 2;", 1, 0);
        fault("hand A;", 1, 5);
        fault("hand \u00e9;", 1, 5);
        fault("hand k\u00e9;", 1, 6);
        fault("hand 5;", 1, 5);
        fault("hand used;", 1, 5);
        fault("hand sixsix;", 0, NONE);
        fault("hand sevense;", 1, 11);
        fault("abcdefgh", 1, 6);
        fault("fine abcdefg;", 1, 11);
        fault("hand 12345;", 1, 9);
        fault("fine 00100;", 1, 9);
        fault("fine 0100;", 0, NONE);
        fault("fine 99999;", 1, 9);
        fault("hand h;knows h kind", 1, 15);
        fault("kind k rests 0 of 2;job j by 1 does;", 1, 35);
        fault("kind k rests 0 of 2;job j by 1 does k;", 1, 37);
        fault("may 1;", 1, 5);
        fault("may (1<2);", 1, 6);
        fault("may [1<2;", 1, 8);
        fault("may [1<2]<3;", 1, 9);
        fault("may all<3;", 1, 7);
        fault("may not;", 1, 7);
        fault("may 1<2 or;", 1, 10);
        fault("may 1<2<3;", 1, 7);
        fault("may 1=2 not 1=1;", 1, 8);
        fault("wears 1<2;", 1, 7);
        fault("wears not;", 1, 6);
        fault("wears [1];", 1, 6);
        fault("wears min 1;", 1, 10);
        fault("wears min(1);", 1, 11);
        fault("wears max(1,2,3);", 1, 13);
        fault("wears if(1,2,3);", 1, 10);
        fault("wears if(all,2);", 1, 14);
        fault("wears if(used>1,2,3);", 1, 9);
        fault("wears 1+frost;", 1, 8);
        fault("wears 1 2;", 1, 8);
        fault("wears 1+;", 1, 8);
        fault("wears abc;", 1, 6);
        fault("wears -1;", 1, 6);
        fault("may frost=used;", 0, NONE);
        fault("may 5or 1<2;", 1, 5);
        fault("may 1<5or 1<2;", 1, 7);
        fault("may[all]or[all]and not[1=2];", 0, NONE);
        fault("wears(1);", 0, NONE);
    }

    private static void nameFaults() {
        promise = "5 fault 2, 3";
        String known = "kind k rests 0 of 5;tool t is k worn 0;hand h;job j by 0 does k 1;kind q rests 0 of 5;";
        fault(known + "kind k", 2, 91);
        fault(known + "tool k", 2, 91);
        fault(known + "hand t", 2, 91);
        fault(known + "job j", 2, 90);
        fault(known + "hand h5;", 2, 91);
        fault(known + "hand hh;", 0, NONE);
        fault(known + "tool u is t worn 1;", 3, 96);
        fault(known + "tool u is u worn 1;", 3, 96);
        fault(known + "knows t h 1;", 3, 92);
        fault(known + "knows h h 1;", 3, 94);
        fault(known + "job i by 1 does h 1;", 3, 102);
        fault(known + "job i by 1 does k 1 h 1;", 3, 106);
        fault(known + "serves t for k at 1;", 3, 93);
        fault(known + "serves k for k at 1;", 3, 99);
        fault(known + "serves k for zz at 1;", 3, 99);
        fault(known + "serves k for q at 1;serves q for k at 2;", 0, NONE);
        fault("tool t is k worn 0;kind k rests 0 of 5;", 3, 10);
    }

    private static void numberFaults() {
        promise = "5 fault 4";
        fault("kind k rests 0 of 1;", 4, 18);
        fault("kind k rests 0 of 2;", 0, NONE);
        fault("kind k rests 29 of 30;", 0, NONE);
        fault("kind k rests 30 of 31;", 4, 19);
        fault("kind k rests 40 of 5;", 4, 19);
        fault("kind k rests 40 or 5;", 1, 16);
        fault("kind k rests 3 of 3;", 4, 18);
        fault("smith 0 of 1;", 4, 11);
        fault("smith 4 of 31;", 4, 11);
        fault("smith 4 of 4;", 4, 11);
        fault("smith 4 of 5;", 0, NONE);
        fault("breaks 0;", 4, 7);
        fault("breaks 101;", 4, 7);
        fault("breaks 1;breaks 100;", 0, NONE);
        fault("fine 101;", 4, 5);
        fault("fine 0;fine 100;", 0, NONE);
        fault("frost 101;", 4, 6);
        fault("frost 0;frost 100;", 0, NONE);
        fault("frost 101x", 4, 6);
        String known = "kind k rests 0 of 5;kind q rests 0 of 5;tool t is k worn 99;hand h;";
        fault(known + "tool u is k worn 100;", 4, 84);
        fault(known + "knows h t 9;", 0, NONE);
        fault(known + "knows h t 10;", 4, 77);
        fault(known + "job j by 999 does k 9;", 0, NONE);
        fault(known + "job j by 1000 does k 9;", 4, 76);
        fault(known + "job j by 1 does k 0;", 4, 85);
        fault(known + "job j by 1 does k 10;", 4, 85);
        fault(known + "serves k for q at 99;", 0, NONE);
        fault(known + "serves k for q at 0;", 4, 85);
        fault(known + "serves k for q at 100;", 4, 85);
        fault("wears 9999;", 0, NONE);
    }

    private static void depthFaults() {
        promise = "5 fault 5";
        fault("wears (((((((1)))))));", 0, NONE);
        fault("wears ((((((((1))))))));", 5, 13);
        fault("may [[[[[[[all]]]]]]];", 0, NONE);
        fault("may [[[[[[[[all]]]]]]]];", 5, 11);
        fault("may not not not not not not not all;", 0, NONE);
        fault("may not not not not not not not not all;", 5, 32);
        fault("may not [not [not [not 1=2]]];", 0, NONE);
        fault("may not [not [not [not (1)=2]]];", 5, 23);
        fault("wears min(min(min(min(min(min(min(1,2),3),4),5),6),7),8);", 0, NONE);
        fault("wears min(min(min(min(min(min(min((1),2),3),4),5),6),7),8);", 5, 34);
        fault("wears max(max(max(max(max(max(max(max(1,2),3),4),5),6),7),8),9);", 5, 37);
        fault("may not 1=1 and not 1=1 and not 1=1 and not 1=1 and not 1=1 and not 1=1 and not 1=1 and not 1=1;", 0, NONE);
        fault("wears (1)+(1)+(1)+(1)+(1)+(1)+(1)+(1)+(1);", 0, NONE);
        fault("wears (((((((1+[", 1, 15);
        String seven = "wears min(1,max(1,if(1<2,if(1<min(2,3),4,max(5,min(%s,7))),8)));";
        fault(String.format(seven, "(6)"), 0, NONE);
        fault(String.format(seven, "((6))"), 5, 52);
        fault("wears if([[[[[[all]]]]]],1,2);", 0, NONE);
        fault("wears if([[[[[[[all]]]]]]],1,2);", 5, 15);
        fault("wears if(all,((((((1)))))),((((((2)))))));", 0, NONE);
        fault("wears if(all,(((((((1))))))),2);", 5, 19);
        fault("wears if(all,1,(((((((2))))))));", 5, 21);
        fault("wears min(1,((((((2)))))));", 0, NONE);
        fault("wears min(1,(((((((2))))))));", 5, 18);
    }

    private static void tooMany() {
        promise = "5 fault 6";
        StringBuilder kinds = new StringBuilder();
        StringBuilder hands = new StringBuilder();
        StringBuilder tools = new StringBuilder("kind k rests 0 of 5;");
        StringBuilder jobs = new StringBuilder("kind k rests 0 of 5;");
        for (char c = 'a'; c < 'g'; c++) {
            kinds.append("kind k").append(c).append(" rests 0 of 5;");
            hands.append("hand h").append(c).append(";");
            jobs.append("job j").append(c).append(" by 5 does k 1;");
        }
        for (char c = 'a'; c < 'i'; c++) {
            tools.append("tool t").append(c).append(" is k worn 5;");
        }
        fault(kinds.toString(), 0, NONE);
        fault(kinds + "kind", 6, 6 * 21);
        fault(hands.toString(), 0, NONE);
        fault(hands + " hand ha", 6, 6 * 8 + 1);
        fault(tools.toString(), 0, NONE);
        fault(tools + "tool 12345", 6, 20 + 8 * 20);
        fault(jobs.toString(), 0, NONE);
        fault(jobs + "job", 6, 20 + 6 * 21);
        fault("may all;fine 1;may all;", 6, 15);
        fault("wears 1;wears", 6, 8);
        fault("fine 1;".repeat(80), 0, NONE);
        is("80 statements", Tape.year(new ToolSaints(), "fine 1;".repeat(80)), 80);
        fault("fine 1;".repeat(80) + "\n", 0, NONE);
        fault("fine 1;".repeat(80) + " fine 1;", 6, 561);
        fault("fine 1;".repeat(80) + "abcdefgh", 6, 560);
        fault("fine 1;".repeat(80) + ";", 6, 560);
        String steps = "kind k rests 0 of 5;job j by 1 does k 1 k 1 k 1 k 1";
        fault(steps + ";", 0, NONE);
        fault(steps + " k 1;", 6, 52);
        fault(steps + " abcdefgh", 6, 52);
        fault(steps + " fine", 6, 52);
        fault(steps + " 1", 1, 52);
        fault(steps + "\nx", 6, 52);
        fault(steps + "k", 6, 51);
        fault(steps + "x\0", 6, 51);
        fault(steps + "k 1;", 6, 51);
        fault(steps + "by", 6, 51);
        fault(steps + "abcdefgh", 6, 51);
        fault(steps + "X", 1, 51);
        fault(steps + "0k", 4, 50);
        fault(steps + "2345k", 1, 54);
        String three = "kind k rests 0 of 5;job j by 1 does k 1 k 1 k 1";
        fault(three + "k 1;", 1, 47);
        fault(three + "x", 1, 47);
        fault(three + "abcdefgh", 1, 47);
        fault(three + " x", 3, 48);
        fault(three + " abcdefgh", 1, 54);
    }

    private static void hasCounts() {
        promise = "6 has";
        ToolSaints x = of(YARD + "breaks 5;");
        is("KINDS", x.has(0), 2);
        is("TOOLS", x.has(1), 3);
        is("HANDS", x.has(2), 2);
        is("JOBS", x.has(3), 2);
        x.hold(2, 1);
        is("HELD", x.has(7), 1);
        is("none is LATE on its term", x.has(9), 0);
        x.days(2);
        is("DAY", x.has(4), 2);
        is("BROKEN", x.has(6), 2);
        is("LATE", x.has(9), 2);
        is("done", x.has(8), 0);
        is("kept", x.has(10), 2);
        is("acts", x.has(11), 2);
        is("has(13)", x.has(13), NONE);
        is("has(-1)", x.has(-1), NONE);
        ToolSaints y = of("kind k rests 0 of 2;fine 100;job a by 0 does k 1;job b by 0 does k 1;job c by 0 does k 1;");
        y.days(34);
        is("fines", y.has(5), 9900);
        y.days(1);
        is("fines at most", y.has(5), 9999);
        is("later fines at most", y.later(50, NONE), 9999);
    }

    private static void names() {
        promise = "7 letter";
        ToolSaints x = of("kind azbycx rests 0 of 2;tool t is azbycx worn 0;hand zz;job jo by 1 does azbycx 1;");
        int[] letters = {1, 26, 2, 25, 3, 24};
        for (int k = 0; k < 6; k++) {
            is("letter(0, 0, " + k + ")", x.letter(0, 0, k), letters[k]);
        }
        is("letter(0, 0, 6)", x.letter(0, 0, 6), NONE);
        is("letter(0, 0, -1)", x.letter(0, 0, -1), NONE);
        is("TOOL", x.letter(1, 0, 0), 20);
        is("behind it", x.letter(1, 0, 1), 0);
        is("HAND", x.letter(2, 0, 1), 26);
        is("JOB", x.letter(3, 0, 1), 15);
        is("no such KIND", x.letter(0, 1, 0), NONE);
        is("below", x.letter(0, -1, 0), NONE);
        is("no such sort", x.letter(4, 0, 0), NONE);
        is("no such sort", x.letter(-1, 0, 0), NONE);
    }

    private static void lists() {
        ToolSaints x = of(YARD + "knows pip sa 7;knows pip sa 6;");
        promise = "8 kind";
        int[] saw = {1, 3, 3, 0, 1};
        for (int what = 0; what < 5; what++) {
            is("kind(0, " + what + ")", x.kind(0, what), saw[what]);
        }
        is("axe TOOLS", x.kind(1, 2), 4);
        is("axe rests", x.kind(1, 3), 1);
        is("axe rests now", x.kind(1, 4), 0);
        is("kind(0, 5)", x.kind(0, 5), NONE);
        is("kind(0, -1)", x.kind(0, -1), NONE);
        is("kind(2, 0)", x.kind(2, 0), NONE);
        is("kind(-1, 0)", x.kind(-1, 0), NONE);
        promise = "9 tool";
        is("KIND", x.tool(2, 0), 1);
        is("worn", x.tool(0, 1), 10);
        is("BROKEN", x.tool(0, 2), 0);
        is("HELD", x.tool(0, 3), 0);
        x.hold(0, 1);
        is("HELD", x.tool(0, 3), 1);
        x.hold(0, 0);
        is("tool(0, 4)", x.tool(0, 4), NONE);
        is("tool(0, -1)", x.tool(0, -1), NONE);
        is("tool(3, 0)", x.tool(3, 0), NONE);
        is("tool(-1, 0)", x.tool(-1, 0), NONE);
        promise = "10 knows";
        is("the last one counts", x.knows(0, 0), 6);
        is("0 without", x.knows(1, 0), 0);
        is("knows(2, 0)", x.knows(2, 0), NONE);
        is("knows(0, 3)", x.knows(0, 3), NONE);
        is("knows(-1, 0)", x.knows(-1, 0), NONE);
        is("knows(0, -1)", x.knows(0, -1), NONE);
        promise = "11 job";
        int[][] answers = {{0, 1}, {1, 2}, {2, 0}, {3, 0}, {4, NONE}, {9, NONE}, {10, 0}, {11, 1}, {12, NONE},
            {19, NONE}, {20, 3}, {21, 2}, {22, NONE}, {30, NONE}, {-1, NONE}, {Integer.MIN_VALUE, NONE}};
        for (int[] answer : answers) {
            is("job(0, " + answer[0] + ")", x.job(0, answer[0]), answer[1]);
        }
        is("job(2, 0)", x.job(2, 0), NONE);
        is("job(-1, 0)", x.job(-1, 0), NONE);
        x.hold(0, 1);
        x.hold(1, 1);
        x.days(3);
        is("LATE by DAYS", x.job(0, 3), 2);
        is("LATE by DAYS", x.job(1, 3), 3);
    }

    /** DAY 0: bed sb/quin, door sa/pip. DAY 1: saws rest; bed ax/quin, done. DAY 2: door sb/quin, done. */
    private static void daysByHand() {
        promise = "12 later, 13 done, 14 late, 23 days";
        ToolSaints x = of(YARD);
        is("later(0, 0)", x.later(0, 0), 0);
        is("later(1, 0)", x.later(1, 0), 1);
        is("later(1, 1)", x.later(1, 1), 1);
        is("later(2, 0)", x.later(2, 0), 2);
        is("later(2, 1)", x.later(2, 1), 1);
        is("later(2, NONE): door is late on DAY 1", x.later(2, NONE), 5);
        is("later(100, NONE)", x.later(100, NONE), 5);
        is("done(0)", x.done(0), 2);
        is("done(1)", x.done(1), 3);
        is("late(1)", x.late(1), 0);
        is("late(2)", x.late(2), 1);
        is("late(3): not on the DAY it is done", x.late(3), 1);
        is("nothing has changed", x.has(4), 0);
        is("days(1)", x.days(1), 2);
        is("sb is worn by its HOURS", x.tool(1, 1), 7);
        is("quin knows sb better", x.knows(1, 1), 3);
        is("sa is worn", x.tool(0, 1), 15);
        is("pip knows sa better", x.knows(0, 0), 4);
        is("done(0) from DAY 1", x.done(0), 1);
        is("days(2)", x.days(2), 2);
        is("done(0) now", x.done(0), 0);
        is("later(0, 1)", x.later(0, 1), 2);
        is("fines", x.has(5), 5);
        is("KEPT by quin, who knows sb best", x.kept(3, 3), 1);
        is("KEPT TOOL, the least worn", x.kept(3, 2), 1);
        int[] wrongDays = {-1, 101, Integer.MAX_VALUE, Integer.MIN_VALUE};
        for (int n : wrongDays) {
            is("later(" + n + ", 0)", x.later(n, 0), NONE);
            is("late(" + n + ")", x.late(n), NONE);
        }
        is("late(0)", x.late(0), NONE);
        is("later(1, 2)", x.later(1, 2), NONE);
        is("later(1, -2)", x.later(1, -2), NONE);
        is("done(2)", x.done(2), NONE);
        is("done(-1)", x.done(-1), NONE);
        ToolSaints y = of("kind k rests 0 of 2;job j by 990 does k 1;");
        is("not done without a TOOL", y.done(0), NONE);
        for (int i = 0; i < 9; i++) {
            y.days(100);
        }
        is("late up to DAY 999", y.late(99), 36);
        is("later up to DAY 999", y.later(99, NONE), 40);
        is("late beyond DAY 999", y.late(100), NONE);
        is("later beyond DAY 999", y.later(100, 0), NONE);
        is("a HAND must be there", of("kind k rests 0 of 2;tool t is k worn 0;job j by 9 does k 1;").done(0), NONE);
        is("no HAND works twice a DAY", of("kind k rests 0 of 5;tool t is k worn 0;tool u is k worn 0;hand h;"
                + "job i by 9 does k 1;job j by 9 does k 1;").done(1), 3);
        is("no TOOL works twice a DAY", of("kind k rests 0 of 5;tool t is k worn 0;hand h;hand g;"
                + "job i by 9 does k 1;job j by 9 does k 1;").done(1), 3);
        ToolSaints z = of("kind k rests 1 of 5;tool t is k worn 7;tool u is k worn 7;hand h;hand g;job i by 9 does k 1;");
        z.days(1);
        is("of like TOOLS the first", z.kept(0, 2), 0);
        is("of like HANDS the first", z.kept(0, 3), 0);
    }

    private static void wearAndSmith() {
        promise = "23 days: wear, breaks, smith, fines";
        ToolSaints x = of("kind k rests 9 of 10;tool t is k worn 90;hand h;job j by 99 does k 9 k 9 k 9 k 9;");
        x.days(1);
        is("worn 99", x.tool(0, 1), 99);
        is("not BROKEN below breaks", x.tool(0, 2), 0);
        x.days(1);
        is("worn 100 at most", x.tool(0, 1), 100);
        is("BROKEN", x.tool(0, 2), 1);
        x.days(7);
        is("it rests", x.job(0, 2), 2);
        is("not mended ahead of the smith's DAY", x.tool(0, 2), 1);
        x.days(1);
        is("MENDED on DAY 9, worn 0, but it is a REST DAY", x.tool(0, 1), 0);
        is("not BROKEN", x.tool(0, 2), 0);
        is("mended ahead of the work", of("kind k rests 29 of 30;tool t is k worn 0;hand h;"
                + "job j by 9 does k 2 k 2;breaks 2;smith 3 of 4;").done(0), 4);
        is("wears 0 at least", worn("wears 0-5;"), 10);
        is("wears 99 at most", worn("wears 9999;"), 100);
        is("wears as it is worn", worn("wears worn*2;"), 30);
        is("wears as it is known ahead", worn("wears knows;"), 19);
        is("HOURS without", worn(""), 14);
        ToolSaints y = of("kind k rests 0 of 2;tool t is k worn 0;hand h;knows h t 9;job j by 99 does k 1;may all;fine 7;");
        y.days(1);
        is("a fine on a REST DAY", y.has(5), 7);
        is("knows 9 at most", y.knows(0, 0), 9);
        is("worn at first above breaks is not BROKEN",
                of("kind k rests 1 of 2;tool t is k worn 50;hand h;job j by 9 does k 1;breaks 10;").done(0), 1);
    }

    private static int worn(String wears) {
        ToolSaints x = of("kind k rests 1 of 5;tool t is k worn 10;hand h;knows h t 9;job j by 9 does k 4;" + wears);
        x.days(1);
        return x.tool(0, 1);
    }

    private static void ruleLanguage() {
        promise = "23 days: the small language";
        is("from the left", sum("20-5-3"), 12);
        is("products first", sum("2+3*4"), 14);
        is("products from the left", sum("100/7*2%9"), 1);
        is("brackets", sum("(2+3)*4"), 20);
        is("/ below 0", sum("(0-7)/2+10"), 6);
        is("/ by below 0", sum("7/(0-2)+10"), 6);
        is("% below 0", sum("(0-7)%3"), 2);
        is("% by below 0", sum("7%(0-3)+10"), 8);
        is("/ by 0", sum("7/0+1"), 1);
        is("% by 0", sum("7%0+1"), 1);
        is("10 to the 6 at most", sum("9999*9999/9999%50"), 0);
        is("10 to the 6 at most", sum("9999*9999/9999-50"), 50);
        is("10 to the 6 at most, exactly", sum("9999*9999-9999*100+0-50"), 50);
        is("-10 to the 6 at least", sum("(0-9999)*9999+9999*100+150"), 50);
        is("min", sum("min(3,2)"), 2);
        is("max", sum("max(3,2)"), 3);
        is("if", sum("if(1<2,5,6)"), 5);
        is("else", sum("if(1>2,5,6)"), 6);
        is("if in a sum", sum("1+if(not all,5,if(2=2,7,8))*2"), 15);
        is("hours", sum("hours"), 8);
        is("knows", sum("knows+1"), 5);
        is("day, late, rest, worn", sum("day+late+rest+worn"), 0);
        is("or is weaker than and", test("all or all and not all"), true);
        is("brackets of tests", test("[all or all] and not all"), false);
        is("not is of its FACT alone", test("not 1=2 and 1=2"), false);
        is("not of brackets", test("not[1=2 and 1=2]"), true);
        is("<", test("1<2"), true);
        is("<", test("2<2"), false);
        is(">", test("2>1"), true);
        is(">", test("2>2"), false);
        is("=", test("2=2"), true);
        is("used", test("used=0"), true);
        is("worn", test("worn=3"), true);
        is("rest", test("rest=0"), true);
        is("frost without draws", test("frost=0"), true);
        ToolSaints x = of("kind k rests 0 of 2;tool s is k worn 0;tool t is k worn 5;hand h;hand g;knows g t 4;"
                + "job i by 0 does k 1;job j by 0 does k 1 k 1;may used=1 or day>1;");
        is("used counts TOOLS of this DAY", x.later(1, 1), 0);
        is("day", x.later(3, 0), 1);
        is("used", x.later(3, 1), 1);
        ToolSaints y = of("kind k rests 0 of 2;tool s is k worn 0;tool t is k worn 5;hand h;hand g;knows g t 4;"
                + "job j by 0 does k 1;may worn>knows;");
        y.days(1);
        is("only TOOLS for which may holds", y.kept(0, 2), 1);
        is("with its HAND", y.kept(0, 3), 1);
        is("late in a test", of("kind k rests 29 of 30;tool t is k worn 0;hand h;job j by 2 does k 1;may late=3;").done(0), 6);
        is("rest in a test", of("kind k rests 3 of 30;tool t is k worn 0;hand h;job j by 2 does k 1;may rest=1;").done(0), 4);
    }

    private static void ahead() {
        promise = "12 later";
        ToolSaints x = of(LONE + "frost 100;may frost=0;");
        is("no frost ahead", x.later(5, 0), 4);
        is("later(1, 0)", x.later(1, 0), 1);
        promise = "13 done";
        ToolSaints y = of("kind k rests 0 of 2;tool t is k worn 0;hand h;job j by 9 does k 1;may day=99;");
        is("behind 100 DAYS", y.done(0), 100);
        ToolSaints z = of("kind k rests 0 of 2;tool t is k worn 0;hand h;job j by 9 does k 1;may day=100;");
        is("not behind 101", z.done(0), NONE);
        z.days(1);
        is("behind 100 of DAY 1", z.done(0), 100);
    }

    private static void orders() {
        promise = "15 order";
        ToolSaints x = of("kind k rests 29 of 30;tool t is k worn 0;hand h;"
                + "job a by 5 does k 1 k 1;job b by 0 does k 1;job c by 1 does k 1;");
        is("by numbers: b on DAY 1, c on DAY 2", x.late(4), 2);
        is("late", x.order(4, NONE), 0);
        is("first", x.order(4, 0), 1);
        is("second", x.order(4, 1), 2);
        is("third", x.order(4, 2), 0);
        is("order(4, 3)", x.order(4, 3), NONE);
        is("order(4, -2)", x.order(4, -2), NONE);
        is("order(0, 0)", x.order(0, 0), NONE);
        is("order(31, 0)", x.order(31, 0), NONE);
        is("one DAY: of like ones the first", x.order(1, 0), 0);
        is("two DAYS", x.order(2, NONE), 0);
        is("two DAYS: b must be first or second", x.order(2, 0), 1);
        is("two DAYS: then by JOBS", x.order(2, 1), 0);
        x.due(0, 0);
        is("asked anew behind an act", x.order(4, NONE), 2);
        is("a, b, c is as good as b, a, c", x.order(4, 0), 0);
        x.undo();
        is("asked anew behind undo", x.order(4, NONE), 0);
        x.days(1);
        x.days(1);
        is("a is done: a, b, c", x.job(0, 2), 2);
        is("late from DAY 2 on", x.order(5, NONE), 1);
        is("a JOB that is done stands ahead", x.order(5, 0), 0);
        is("b, which is more late, is ahead of c", x.order(5, 1), 1);
        ToolSaints y = new ToolSaints();
        is("no JOBS", y.order(30, NONE), 0);
        is("no JOBS", y.order(30, 0), NONE);
        while (y.has(4) < 980) {
            y.days(20);
        }
        is("up to DAY 999", y.order(19, NONE), 0);
        is("beyond DAY 999", y.order(20, NONE), NONE);
    }

    private static void moves() {
        promise = "16 moved";
        ToolSaints x = of("kind k rests 0 of 3;kind q rests 1 of 4;tool t is k worn 0;tool u is q worn 0;hand h;hand g;"
                + "job a by 0 does k 1 q 1;");
        is("k on DAY 1, q on DAY 2", x.late(9), 1);
        is("q on DAY 1 rests: k alone helps not, nor does q", x.moved(9, 0), NONE);
        ToolSaints y = of("kind k rests 0 of 3;kind q rests 2 of 4;tool t is k worn 0;tool u is q worn 0;hand h;hand g;"
                + "job a by 0 does k 1 q 1;");
        is("k on DAY 1, q on DAY 3: late on 1, 2", y.late(9), 3);
        is("KIND", y.moved(9, 0), 0);
        is("its first REST DAY that is as good", y.moved(9, 1), 1);
        is("less", y.moved(9, 2), 3);
        is("moved(9, 3)", y.moved(9, 3), NONE);
        is("moved(9, -1)", y.moved(9, -1), NONE);
        is("moved(0, 0)", y.moved(0, 0), NONE);
        is("moved(61, 0)", y.moved(61, 0), NONE);
        is("moved(60, 2)", y.moved(60, 2), 3);
        is("moved(1, 0): nothing is late yet", y.moved(1, 0), NONE);
        y.days(1);
        is("from DAY 1 on, q is what matters", y.moved(9, 0), 1);
        is("its first DAY", y.moved(9, 1), 0);
        is("less: 1 in place of 3", y.moved(9, 2), 2);
        is("the saint has not moved", y.kind(1, 0), 2);
    }

    private static void makeshifts() {
        promise = "17 makeshift";
        ToolSaints x = of("kind a rests 0 of 2;kind b rests 0 of 2;kind c rests 0 of 2;kind d rests 0 of 2;kind e rests 0 of 2;"
                + "serves b for a at 9;serves b for a at 2;serves c for b at 3;serves c for a at 6;"
                + "serves d for c at 1;serves d for a at 6;serves d for b at 4;");
        is("b for a: the last one counts", x.makeshift(1, 0, NONE), 2);
        is("c for a over b", x.makeshift(2, 0, NONE), 5);
        is("first from a", x.makeshift(2, 0, 0), 1);
        is("then", x.makeshift(2, 0, 1), 2);
        is("then none", x.makeshift(2, 0, 2), NONE);
        is("d for a", x.makeshift(3, 0, NONE), 6);
        is("of like ones the fewest", x.makeshift(3, 0, 0), 3);
        is("no more", x.makeshift(3, 0, 1), NONE);
        is("a for d: none", x.makeshift(0, 3, NONE), NONE);
        is("a for d: none", x.makeshift(0, 3, 0), NONE);
        is("e for a: none", x.makeshift(4, 0, NONE), NONE);
        is("itself", x.makeshift(4, 4, NONE), 0);
        is("itself", x.makeshift(4, 4, 0), NONE);
        is("makeshift(5, 0)", x.makeshift(5, 0, NONE), NONE);
        is("makeshift(0, -1)", x.makeshift(0, -1, NONE), NONE);
        is("makeshift(1, 0, -2)", x.makeshift(1, 0, -2), NONE);
        is("makeshift(1, 0, MAX)", x.makeshift(1, 0, Integer.MAX_VALUE), NONE);
        ToolSaints y = of("kind a rests 0 of 2;kind b rests 0 of 2;kind c rests 0 of 2;kind d rests 0 of 2;"
                + "serves c for a at 1;serves d for c at 3;serves b for a at 2;serves d for b at 2;");
        is("of like ones KIND by KIND the first", y.makeshift(3, 0, 0), 1);
        is("the one that serves at last", y.makeshift(3, 0, 1), 3);
    }

    private static void hangsAndGuards() {
        promise = "18 hangs";
        ToolSaints x = of("kind k rests 29 of 30;kind q rests 29 of 30;tool t is k worn 0;tool u is k worn 0;tool v is q worn 0;"
                + "hand h;hand g;job a by 0 does k 1 q 1;job b by 0 does k 1;");
        is("hangs(0, 2)", x.hangs(0, 2), 4);
        is("not done so soon", x.hangs(0, 1), 0);
        is("both TOOLS are needed for b in one DAY", x.hangs(1, 1), 3);
        is("hangs(1, 2)", x.hangs(1, 2), 0);
        is("hangs(1, 60)", x.hangs(1, 60), 0);
        is("hangs(1, 61)", x.hangs(1, 61), NONE);
        is("hangs(1, 0)", x.hangs(1, 0), NONE);
        is("hangs(2, 1)", x.hangs(2, 1), NONE);
        is("hangs(-1, 1)", x.hangs(-1, 1), NONE);
        x.hold(0, 1);
        is("not on one that is HELD", x.hangs(0, 2), 6);
        promise = "19 guard";
        is("one that is not HELD", x.guard(0, 2), 2);
        x.undo();
        is("of like ones the least", x.guard(1, 1), 1);
        is("both", x.guard(1, 30), 3);
        is("one alone", x.guard(0, 30), 4);
        is("not done anyway", x.guard(0, 1), 0);
        is("guard(0, 31)", x.guard(0, 31), NONE);
        is("guard(0, 0)", x.guard(0, 0), NONE);
        is("guard(2, 1)", x.guard(2, 1), NONE);
        is("guard(-1, 1)", x.guard(-1, 1), NONE);
        x.days(2);
        is("done already: hangs", x.hangs(0, 5), 0);
        is("done already: guard", x.guard(0, 5), NONE);
        String four = "kind k rests 29 of 30;tool a is k worn 0;tool b is k worn 0;tool c is k worn 0;%shand h;job j by 0 does k 1;";
        is("three", of(String.format(four, "")).guard(0, 3), 7);
        is("four are too many", of(String.format(four, "tool d is k worn 0;")).guard(0, 3), NONE);
    }

    private static void loans() {
        promise = "20 loan";
        String base = "kind k rests 0 of 2;tool ta is k worn 0;tool tb is k worn 0;tool tc is k worn 0;tool td is k worn 0;"
                + "hand ha;hand hb;hand hc;";
        ToolSaints x = of(base + "knows ha tb 5;knows hb ta 5;knows hc ta 9;knows hc tb 8;knows hc td 9;");
        int[][] due = {{1, 1, 2}, {0, 1, 2}, {2, 2, 1}};
        for (int hand = 0; hand < 3; hand++) {
            for (int what = 0; what < 3; what++) {
                is("loan(" + hand + ", " + what + ")", x.loan(hand, what), due[hand][what]);
            }
        }
        is("loan(0, 3)", x.loan(0, 3), NONE);
        is("loan(0, -1)", x.loan(0, -1), NONE);
        is("loan(3, 0)", x.loan(3, 0), NONE);
        is("loan(-1, 0)", x.loan(-1, 0), NONE);
        ToolSaints y = of(base + "knows ha tb 5;knows ha ta 5;knows hb tc 3;knows hc tb 1;knows hc ta 1;");
        is("its own, if it is among the best", y.loan(0, 0), 0);
        is("hb points at hc", y.loan(1, 0), 2);
        is("hb has to wait: hc points at ha first", y.loan(1, 1), 2);
        is("hc gets the first TOOL of those left", y.loan(2, 0), 1);
        is("a ring of two", y.loan(2, 2), 2);
        ToolSaints z = of(base + "knows ha tb 1;knows hb tc 1;knows hc ta 1;");
        is("a ring of three", z.loan(2, 2), 3);
        is("round its ring", z.loan(2, 0), 0);
        z.swap(0, 1);
        is("by what is known now", z.loan(1, 0), 1);
        is("a HAND without a TOOL", of("kind k rests 0 of 2;tool t is k worn 0;hand h;hand g;knows g t 9;").loan(1, 0), NONE);
    }

    private static void shavings() {
        promise = "21 shavings, 22 when";
        ToolSaints x = of(LONE);
        is("it works on DAYS 1 to 4", Tape.shavings(x, 0, 1), 4);
        is("when(0)", x.when(0), 1);
        is("when(3)", x.when(3), 4);
        is("when(4)", x.when(4), NONE);
        is("when(-1)", x.when(-1), NONE);
        is("refused: none", Tape.shavings(x), NONE);
        is("refused: half a row", Tape.shavings(x, 0), NONE);
        is("refused: half a row", Tape.shavings(x, 0, 1, 0), NONE);
        is("refused: no such TOOL", Tape.shavings(x, 1, 1), NONE);
        is("refused: neither 1 nor 0", Tape.shavings(x, 0, 2), NONE);
        is("refused: 17 rows", Tape.shavings(x, new int[34]), NONE);
        is("status(5)", x.status(5), 6);
        is("the tape went", x.end(1), false);
        is("a refused one counts not", x.when(3), 4);
        is("16 rows; the DAY 60 AHEAD is the last", Tape.shavings(x, new int[32]), 57);
        is("when(0)", x.when(0), 0);
        is("when(1)", x.when(1), 5);
        is("when(56)", x.when(56), 60);
        x.days(2);
        is("as it was told then", x.when(1), 5);
        is("from DAY 2 on", Tape.shavings(x, 0, 1), 3);
        is("from DAY 2 on", x.when(0), 0);
        is("rows that deny one another", Tape.shavings(x, 0, 1, 0, 0), 0);
        is("none", x.when(0), NONE);
        ToolSaints y = of("kind k rests 0 of 2;tool t is k worn 0;tool u is k worn 5;hand h;hand g;"
                + "job i by 9 does k 1;job j by 9 does k 1 k 1;");
        is("one works, one does not", Tape.shavings(y, 1, 0, 0, 1), 1);
        is("DAY 3", y.when(0), 3);
        while (y.has(4) < 990) {
            y.days(10);
        }
        is("not DAY 999", Tape.shavings(y, 0, 0), 9);
        y.days(9);
        is("none is left", Tape.shavings(y, 0, 0), 0);
    }

    private static void dayActs() {
        promise = "23 days";
        ToolSaints x = of(LONE);
        is("days(0)", x.days(0), NONE);
        is("days(-1)", x.days(-1), NONE);
        is("days(101)", x.days(101), NONE);
        is("status(2)", x.status(2), 3);
        is("no act", x.has(11), 0);
        is("days(3)", x.days(3), 2);
        is("no draws", x.has(12), 1);
        for (int i = 0; i < 9; i++) {
            x.days(100);
        }
        is("days(97)", x.days(97), NONE);
        is("chance(97)", x.chance(97), NONE);
        is("days(96)", x.days(96), 0);
        is("DAY", x.has(4), 999);
        is("days(1)", x.days(1), NONE);
        is("done(0) is known still", x.done(0), 0);
    }

    private static void chances() {
        promise = "24 chance, 29 seed";
        ToolSaints x = of(LONE + "frost 50;may frost=1;");
        is("chance(0)", x.chance(0), NONE);
        is("chance(101)", x.chance(101), NONE);
        is("status(2)", x.status(2), 2);
        is("a refused one draws not", x.has(12), 1);
        is("chance(1)", x.chance(1), bit(draw(1, 1) < 50));
        is("the seed", x.has(12), 1103527590);
        int frosts = 0;
        for (int k = 2; k < 12; k++) {
            frosts += bit(draw(1, k) < 50);
        }
        is("chance(10)", x.chance(10), frosts);
        is("one ACT each", x.has(11), 2);
        is("STEPS are worked in a frost", x.job(0, 2), Math.min(4, frosts + bit(draw(1, 1) < 50)));
        is("DAY", x.has(4), 11);
        is("seed(-1)", x.seed(-1), false);
        is("seed(MIN)", x.seed(Integer.MIN_VALUE), false);
        is("status(5)", x.status(5), 2);
        is("seed(MAX)", x.seed(Integer.MAX_VALUE), true);
        is("the seed", x.has(12), Integer.MAX_VALUE);
        x.chance(1);
        is("the seed", x.has(12), (int) ((1103515245L * Integer.MAX_VALUE + 12345) % (1L << 31)));
        is("seed(0)", x.seed(0), true);
        x.chance(1);
        is("the seed", x.has(12), 12345);
        is("no frost without it", of(LONE).chance(50), 0);
        is("always at 100", of(LONE + "frost 100;").chance(50), 50);
    }

    private static int bit(boolean b) {
        return b ? 1 : 0;
    }

    private static long draw(long seed, int k) {
        long x = seed;
        for (int i = 0; i < k; i++) {
            x = (1103515245L * x + 12345) % (1L << 31);
        }
        return x / 64 % 100;
    }

    private static void smallActs() {
        ToolSaints x = of(YARD);
        promise = "25 hold";
        is("hold(0, 1)", x.hold(0, 1), true);
        is("so already", x.hold(0, 1), false);
        is("hold(1, 0): so already", x.hold(1, 0), false);
        is("hold(0, 0)", x.hold(0, 0), true);
        is("hold(0, 2)", x.hold(0, 2), false);
        is("hold(0, -1)", x.hold(0, -1), false);
        is("hold(3, 1)", x.hold(3, 1), false);
        is("hold(-1, 1)", x.hold(-1, 1), false);
        is("status(3)", x.status(3), 6);
        is("acts", x.has(11), 2);
        x.hold(1, 1);
        is("bed's saw is now sa", x.later(1, 1), 0);
        promise = "26 swap";
        is("swap(0, 1)", x.swap(0, 1), true);
        is("knows", x.knows(1, 0), 3);
        is("knows", x.knows(0, 2), 5);
        is("knows", x.knows(1, 2), 0);
        is("swap(0, 0)", x.swap(0, 0), false);
        is("swap(0, 2)", x.swap(0, 2), false);
        is("swap(-1, 0)", x.swap(-1, 0), false);
        is("status(3)", x.status(3), 9);
        promise = "27 due";
        is("due(0, 999)", x.due(0, 999), true);
        is("term", x.job(0, 0), 999);
        is("that already", x.due(0, 999), false);
        is("due(0, 1000)", x.due(0, 1000), false);
        is("due(0, -1)", x.due(0, -1), false);
        is("due(2, 5)", x.due(2, 5), false);
        is("due(-1, 5)", x.due(-1, 5), false);
        is("status(3)", x.status(3), 14);
        is("due(0, 0)", x.due(0, 0), true);
        is("acts", x.has(11), 6);
    }

    private static void undoing() {
        promise = "28 undo";
        ToolSaints x = of(YARD + "frost 60;");
        is("none", x.undo(), false);
        is("status(4)", x.status(4), 1);
        x.hold(2, 1);
        x.due(0, 7);
        x.swap(0, 1);
        int[] before = Tape.image(x);
        x.chance(3);
        int seed = x.has(12);
        is("undo", x.undo(), true);
        int[] behind = Tape.image(x);
        for (int i = 0; i < before.length; i++) {
            is("octet " + i, behind[i], before[i]);
        }
        is("nothing kept", x.has(10), 0);
        is("but the seed", x.has(12), seed);
        x.undo();
        is("swap undone", x.knows(0, 0), 3);
        x.undo();
        is("due undone", x.job(0, 0), 1);
        x.undo();
        is("hold undone", x.tool(2, 3), 0);
        is("none is left", x.undo(), false);
        for (int day = 10; day < 35; day++) {
            x.due(0, day);
        }
        is("20 at most", x.has(11), 20);
        for (int i = 0; i < 20; i++) {
            is("undo", x.undo(), true);
        }
        is("the 21st", x.undo(), false);
        is("the term ahead of the last 20", x.job(0, 0), 14);
        x.days(1);
        x.days(1);
        x.undo();
        is("KEPT as ahead", x.has(10), 2);
        is("DAY as ahead", x.has(4), 1);
    }

    private static void kept() {
        promise = "30 kept";
        ToolSaints x = of(YARD);
        x.days(3);
        int[][] due = {{0, 0, 1, 1}, {0, 1, 0, 0}, {1, 0, 2, 1}, {2, 1, 1, 1}};
        is("has(10)", x.has(10), 4);
        for (int k = 0; k < 4; k++) {
            for (int what = 0; what < 4; what++) {
                is("kept(" + k + ", " + what + ")", x.kept(k, what), due[k][what]);
            }
        }
        is("kept(0, 4)", x.kept(0, 4), NONE);
        is("kept(0, -1)", x.kept(0, -1), NONE);
        is("kept(4, 0)", x.kept(4, 0), NONE);
        is("kept(-1, 0)", x.kept(-1, 0), NONE);
        x.later(50, 0);
        is("what is AHEAD is not KEPT", x.has(10), 4);
        StringBuilder most = new StringBuilder("kind k rests 1 of 2;may all;wears 0;");
        for (char c = 'a'; c < 'g'; c++) {
            most.append("tool t" + c + " is k worn 0;hand h" + c + ";job j" + c + " by 0 does k 1 k 1 k 1 k 1;");
        }
        ToolSaints y = of(most.toString());
        is("the most that can be worked", y.days(4), 24);
        is("all are told", y.has(10), 24);
        is("the last one's DAY", y.kept(23, 0), 3);
        is("the last one's JOB", y.kept(23, 1), 5);
    }

    private static void images() {
        promise = "31 image, 32 octet";
        ToolSaints x = of("kind k rests 0 of 2;tool t is k worn 9;tool u is k worn 8;hand h;knows h t 4;knows h u 5;"
                + "job j by 300 does k 1 k 2;fine 100;job i by 0 does k 1;");
        x.hold(0, 1);
        x.days(4);
        int[] due = {0, 4, 1, 44, 9, 0, 1, 11, 0, 0, 4, 7, 2, 1, 44, 0, 0, 0, 0};
        Tape.summed(due);
        is("image", x.image(), due.length);
        for (int k = 0; k < due.length; k++) {
            is("octet(" + k + ")", x.octet(k), due[k]);
        }
        is("octet behind", x.octet(due.length), NONE);
        is("octet(-1)", x.octet(-1), NONE);
        x.days(1);
        is("the latest image", x.octet(1), 4);
        x.image();
        is("the latest image", x.octet(1), 5);
        ToolSaints y = new ToolSaints();
        is("the least image", y.image(), 5);
        is("its last byte", y.octet(4), Tape.summed(new int[5])[4]);
    }

    private static void imageRefusals() {
        promise = "33 on";
        ToolSaints x = of(YARD);
        x.days(2);
        int[] image = Tape.image(x);
        x.days(5);
        x.hold(1, 1);
        is("on", Tape.on(x, image), true);
        is("DAY", x.has(4), 2);
        is("nothing KEPT", x.has(10), 0);
        is("no ACTS", x.has(11), 0);
        is("nothing HELD", x.has(7), 0);
        is("STEPS", x.job(0, 2), 2);
        is("knows", x.knows(1, 2), 6);
        is("fines", x.has(5), 5);
        is("the tape went", x.end(1), false);
        is("on goes on as it would", x.done(1), 1);
        // DAY 0, fines 2, TOOLS 4 .. 12, HANDS 13 .. 18, JOBS 19 .. 24.
        int[][] wrongs = {{0, 3, 1, 232}, {2, 39, 3, 16}, {4, 101}, {5, 2}, {6, 2}, {13, 10}, {19, 3}, {20, 3, 21, 232}};
        for (int[] spoil : wrongs) {
            is("byte " + spoil[0], Tape.on(x, spoiled(image, spoil)), false);
        }
        int[][] edges = {{0, 3, 1, 231}, {2, 39, 3, 15}, {4, 100}, {5, 1}, {6, 1}, {13, 9}, {19, 0}, {20, 3, 21, 231}};
        for (int[] edge : edges) {
            is("edge of byte " + edge[0], Tape.on(x, spoiled(image, edge)), true);
        }
        is("as told", x.job(0, 0), 999);
        is("refused", x.status(5), wrongs.length);
        int[] bad = image.clone();
        bad[image.length - 1] ^= 1;
        is("the last byte", Tape.on(x, bad), false);
        is("too short", Tape.on(x, java.util.Arrays.copyOf(image, image.length - 1)), false);
        is("too long", Tape.on(x, java.util.Arrays.copyOf(image, image.length + 1)), false);
        is("none", x.on(), false);
        is("all stays", x.job(0, 0), 999);
        is("refused", x.status(5), wrongs.length + 4);
        ToolSaints y = of(LONE);
        is("of another YEAR", Tape.on(y, image), false);
    }

    private static int[] spoiled(int[] image, int[] changes) {
        int[] copy = image.clone();
        for (int i = 0; i < changes.length; i += 2) {
            copy[changes[i]] = changes[i + 1];
        }
        return Tape.summed(copy);
    }

    private static void statuses() {
        promise = "34 status";
        ToolSaints x = new ToolSaints();
        for (int what = 0; what < 6; what++) {
            is("status(" + what + ")", x.status(what), 0);
        }
        x.end(1);
        Tape.year(x, "x");
        Tape.year(x, "x");
        x.days(0);
        x.chance(0);
        x.chance(0);
        x.hold(0, 1);
        x.swap(0, 1);
        x.due(0, 1);
        x.due(0, 1);
        for (int i = 0; i < 5; i++) {
            x.undo();
        }
        x.seed(-1);
        x.seed(-1);
        x.shavings();
        x.shavings();
        x.on();
        x.on();
        for (int what = 0; what < 6; what++) {
            is("status(" + what + ")", x.status(what), what + 1);
        }
        is("status(6)", x.status(6), NONE);
        is("status(-1)", x.status(-1), NONE);
    }
}
