import java.util.function.Predicate;
import java.util.function.Supplier;

/** The boundary cases of the calls: promises 1 to 34, with blocks II and III of the document's terms. */
public final class CallBoundaryTest extends Checks {
    private static final int MIN = Integer.MIN_VALUE;
    private static final int MAX = Integer.MAX_VALUE;
    /** A TOOL that may always work, a HAND, and a JOB that comes behind it. */
    private static final String ONE = "kind k rests 0 of 30;tool t is k worn 0;hand h;may all;fine 0;";
    /** A seed of which the first DRAW of 100 is 0: below the least frost there can be. */
    private static final int NO_FROST_BELOW_ONE = seedThatDraws(0);
    /** Nothing can ever be done: no TOOLS. */
    private static final String IDLE = "kind k rests 0 of 2;job j by 0 does k 1;";

    private CallBoundaryTest() {
    }

    public static void main(String[] args) {
        newObject();
        feeds();
        ends();
        refusedYears();
        acceptedYears();
        yearsInARow();
        faults();
        hasEdges();
        finesPaid();
        letters();
        kinds();
        tools();
        knowsEdges();
        jobs();
        lateOnItsTerm();
        chosenTools();
        chosenHands();
        wearEdges();
        breaksEdges();
        smithEdges();
        finesOfDays();
        laterEdges();
        doneEdges();
        lateEdges();
        orderEdges();
        orderLikes();
        askedAnew();
        orderOfBegunJobs();
        movedEdges();
        movedLikes();
        makeshiftEdges();
        makeshiftLikes();
        hangsEdges();
        guardEdges();
        loanEdges();
        loanRounds();
        shavingRows();
        shavingDays();
        whens();
        daysEdges();
        chanceEdges();
        draws();
        holds();
        swaps();
        dues();
        undoes();
        undoneRing();
        seeds();
        keptEdges();
        images();
        octets();
        imageBounds();
        imagesInARow();
        fullImage();
        imageLengths();
        statuses();
        aheadChangesNothing();
        aheadIsWithoutFrost();
        finish("the boundaries of calls hold");
    }

    /**
     * What can be asked of an object without a change, but what was refused and the fault; of what is
     * there alone, so that an object is asked far fewer than the 512 calls the document promises.
     */
    private static String all(ToolSaints x) {
        StringBuilder b = new StringBuilder();
        for (int what = 0; what < 13; what++) {
            b.append(x.has(what)).append(' ');
        }
        int tools = x.has(1);
        for (int kind = 0; kind < x.has(0); kind++) {
            b.append("\nkind ").append(x.letter(0, kind, 1));
            for (int what = 0; what < 5; what++) {
                b.append(' ').append(x.kind(kind, what));
            }
        }
        for (int tool = 0; tool < tools; tool++) {
            b.append("\ntool ").append(x.letter(1, tool, 1)).append(' ').append(x.tool(tool, 0)).append(' ');
            b.append(x.tool(tool, 1)).append(' ').append(x.tool(tool, 2)).append(' ').append(x.tool(tool, 3));
        }
        for (int hand = 0; hand < x.has(2); hand++) {
            b.append("\nhand ").append(x.letter(2, hand, 1));
            for (int tool = 0; tool < tools; tool++) {
                b.append(' ').append(x.knows(hand, tool));
            }
        }
        return b + jobsOf(x) + toldOf(x);
    }

    private static String jobsOf(ToolSaints x) {
        StringBuilder b = new StringBuilder();
        for (int job = 0; job < x.has(3); job++) {
            b.append("\njob ").append(x.letter(3, job, 1)).append(' ').append(x.job(job, 0)).append(' ');
            b.append(x.job(job, 2)).append(' ').append(x.job(job, 3));
            for (int step = 0; step < x.job(job, 1); step++) {
                b.append(' ').append(x.job(job, 10 + step)).append(' ').append(x.job(job, 20 + step));
            }
        }
        return b.toString();
    }

    private static String toldOf(ToolSaints x) {
        StringBuilder b = new StringBuilder("\nkept");
        for (int k = 0; k < x.has(10); k++) {
            for (int what = 0; what < 4; what++) {
                b.append(' ').append(x.kept(k, what));
            }
        }
        b.append("\nshavings");
        for (int k = 0; x.when(k) != NONE; k++) {
            b.append(' ').append(x.when(k));
        }
        return b.toString();
    }

    /** A call, on an object of its own, that is refused, counted once, and changes nothing. */
    private static void refused(String what, int status, Supplier<ToolSaints> made, Predicate<ToolSaints> refuses) {
        ToolSaints x = made.get();
        String before = all(x);
        int count = x.status(status);
        is(what + " is refused", refuses.test(x), true);
        is(what + " is counted", x.status(status), count + 1);
        is(what + ": all stays", all(x), before);
        is(what + ": the tape is empty", x.end(1), false);
    }

    /** A YEAR on a DAY, with nothing worked so far. */
    private static ToolSaints onDay(String text, int day) {
        return changed(of(text), 0, day >> 8, 1, day & 255);
    }

    /** Octets of the object's image are changed (place, value, ..), and it is taken on. */
    private static ToolSaints changed(ToolSaints x, int... places) {
        is("an image is taken on", Tape.on(x, spoiled(Tape.image(x), places)), true);
        return x;
    }

    private static int[] spoiled(int[] image, int... places) {
        int[] copy = image.clone();
        for (int i = 0; i < places.length; i += 2) {
            copy[places[i]] = places[i + 1];
        }
        return Tape.summed(copy);
    }

    private static void newObject() {
        promise = "1 no TOOLS, no JOBS; the seed is 1";
        ToolSaints x = new ToolSaints();
        for (int what = 0; what < 12; what++) {
            is("has(" + what + ")", x.has(what), 0);
        }
        is("the seed", x.has(12), 1);
        is("all as of an empty YEAR", all(x), all(of("")));
        is("the tape is empty", x.end(1), false);
        is("the tape is empty", x.end(0), true);
        is("image()", x.image(), 5);
        is("on()", Tape.on(x, Tape.image(x)), true);
        is("hold(0, 1)", x.hold(0, 1), false);
        is("swap(0, 1)", x.swap(0, 1), false);
        is("due(0, 1)", x.due(0, 1), false);
        is("undo()", x.undo(), false);
        is("later(100, NONE)", x.later(100, NONE), 0);
        is("late(100)", x.late(100), 0);
        is("order(30, NONE)", x.order(30, NONE), 0);
        is("order(30, 0)", x.order(30, 0), NONE);
        is("moved(60, 0)", x.moved(60, 0), NONE);
        is("done(0)", x.done(0), NONE);
        is("hangs(0, 1)", x.hangs(0, 1), NONE);
        is("guard(0, 1)", x.guard(0, 1), NONE);
        is("loan(0, 0)", x.loan(0, 0), NONE);
        is("makeshift(0, 0, NONE)", x.makeshift(0, 0, NONE), NONE);
        is("shavings of a TOOL that is not there", Tape.shavings(x, 0, 0), NONE);
        is("days(100)", x.days(100), 0);
        is("chance(100)", x.chance(100), 0);
        x.seed(NO_FROST_BELOW_ONE);
        is("no frost", x.chance(1), 0);
        is("another object has a seed of its own", new ToolSaints().has(12), 1);
    }

    private static void feeds() {
        promise = "2 NONE, refused (0), if there would be more than 1600";
        ToolSaints x = new ToolSaints();
        for (int i = 1; i <= 80; i++) {
            is("feed " + i, x.feed(0x20202020, 0x20202020, 0x20202020, 0x20202020, 0x20202020), 20 * i);
        }
        is("none was refused", x.status(0), 0);
        is("the 81st", x.feed(-1, -1, -1, -1, -1), NONE);
        is("the 82nd", x.feed(-1, -1, -1, -1, -1), NONE);
        is("two were", x.status(0), 2);
        is("it has 1600 as ahead", x.end(1600), true);
        is("and no more", x.end(1601), false);
        is("19 more would do", x.end(1581), true);
        is("20 are too many by one", x.feed(-1, -1, -1, -1, -1), NONE);
        is("a refused one leaves the tape", x.year(), 0);
        is("the tape went", x.feed(1, 2, 3, 4, 5), 20);
        for (int i = 2; i < 80; i++) {
            x.feed(0x20202020, 0x20202020, 0x20202020, 0x20202020, 0x20202020);
        }
        x.end(1580);
        is("up to 1600 just so", x.feed(-1, -1, -1, -1, -1), 1600);
        promise = "2 of each number the highest first";
        ToolSaints y = new ToolSaints();
        y.feed('h' << 24 | 'a' << 16 | 'n' << 8 | 'd', ' ' << 24 | 'a' << 16 | 'b' << 8 | 'c',
                'd' << 24 | 'e' << 16 | 'f' << 8 | ';', 0x20202020, 0x2020200a);
        is("year", y.year(), 1);
        for (int k = 0; k < 6; k++) {
            is("letter " + k, y.letter(2, 0, k), k + 1);
        }
        promise = "2 bytes up to 255";
        ToolSaints z = new ToolSaints();
        z.feed(0x20202020, 0x202020ff, 0, 0, 0);
        z.year();
        is("no blank", z.fault(1), 7);
        ToolSaints w = onDay(ONE, 255);
        is("a byte 255", w.has(4), 255);
    }

    private static void ends() {
        promise = "3 false, refused (0), if it has not so many, or n is below 0";
        ToolSaints x = new ToolSaints();
        int[] wrongs = {1, -1, MIN, MAX};
        for (int n : wrongs) {
            is("end(" + n + ")", x.end(n), false);
        }
        is("refused", x.status(0), 4);
        is("end(0) of an empty tape", x.end(0), true);
        x.feed(0x66696e65, 0x20313b66, 0x696e6520, 0x3130313b, 0x20202020);
        is("end(21)", x.end(21), false);
        is("end(20)", x.end(20), true);
        is("end(7)", x.end(7), true);
        is("end(8): those behind went", x.end(8), false);
        is("refused", x.status(0), 6);
        is("its first 7 bytes alone", x.year(), 1);
        is("an accepted one is not refused", x.status(0), 6);
    }

    private static void refusedYears() {
        promise = "4 NONE, refused (1), with a FAULT (all stays); the tape goes";
        String[] texts = {"x", "kind saw rests 0 of 2;fine", YARD + "x", YARD + YARD, "hand new;may all;wears 5;breaks 1;"
            + "fine 9;smith 3 of 4;frost 100;hand", "fine 1;".repeat(81)};
        for (String text : texts) {
            refused("year() of " + text, 1, CallBoundaryTest::wellUsed, x -> Tape.year(x, text) == NONE);
        }
        ToolSaints x = wellUsed();
        x.image();
        int octet = x.octet(1);
        for (int i = 0; i < texts.length; i++) {
            Tape.year(x, texts[i]);
            is("refused", x.status(1), i + 1);
        }
        is("the image stays", x.octet(1), octet);
        is("undo as ever", x.undo(), true);
        ToolSaints y = of(YARD);
        Tape.year(y, "kind k rests 0 of 2;serves k for k");
        is("days go on as ever", y.days(9), of(YARD).days(9));
    }

    /** With something of all that a new YEAR would take away. */
    private static ToolSaints wellUsed() {
        ToolSaints x = of(YARD);
        x.seed(5);
        x.days(1);
        x.chance(2);
        x.hold(1, 1);
        x.swap(0, 1);
        x.due(0, 400);
        Tape.shavings(x, 2, 1);
        return x;
    }

    private static void acceptedYears() {
        promise = "4 without one all is as at first; the seed stays";
        ToolSaints x = of(YARD);
        x.seed(123);
        x.chance(3);
        int seed = x.has(12);
        x.hold(1, 1);
        x.swap(0, 1);
        x.due(0, 400);
        Tape.shavings(x, 0, 0);
        is("the same YEAR", Tape.year(x, YARD), 12);
        is("the seed stays", x.has(12), seed);
        x.seed(1);
        is("all as at first", all(x), all(of(YARD)));
        is("no ACT can be undone", x.undo(), false);
        is("nothing is told of shavings", x.when(0), NONE);
        is("an empty YEAR", x.year(), 0);
        is("all went", all(x), all(new ToolSaints()));
        is("nothing was refused", x.status(1), 0);
        promise = "4 no TOOL is BROKEN or HELD at first, no fine is paid";
        String breaks = "kind k rests 0 of 2;tool t is k worn 5;hand h;job j by 0 does k 1 k 1;may all;breaks 1;smith 9 of 30;";
        ToolSaints y = of(breaks);
        y.days(3);
        y.hold(0, 1);
        is("BROKEN", y.has(6), 1);
        is("fines paid", y.has(5) > 0, true);
        Tape.year(y, breaks);
        is("as at first", all(y), all(of(breaks)));
    }

    private static void yearsInARow() {
        promise = "4 nothing of an earlier YEAR counts, however many there were";
        String plain = "kind k rests 29 of 30;kind q rests 29 of 30;tool t is k worn 90;hand h;job j by 0 does k 9 k 2;";
        String[] others = {"may not all;", "wears 50;", "breaks 1;", "smith 3 of 4;", "fine 77;", "frost 100;", "knows h t 7;",
            "serves k for q at 4;", "wears 9;may day=1;breaks 50;smith 1 of 2;"};
        for (String other : others) {
            ToolSaints x = of(plain + other);
            for (int turn = 0; turn < 3; turn++) {
                is("the plain one", Tape.year(x, plain), 5);
                is("knows", x.knows(0, 0), 0);
                is("serves", x.makeshift(0, 1, NONE), NONE);
                is("may: none", x.later(1, 0), 1);
                is("wears: HOURS; breaks 100", x.later(2, 0), 2);
                is("fine 5", x.later(2, NONE), 0);
                x.hold(0, 1);
                is("fine 5", x.later(2, NONE), 5);
                x.undo();
                x.seed(NO_FROST_BELOW_ONE);
                is("no frost", x.chance(1), 0);
                is("wears: HOURS", x.tool(0, 1), 99);
                is("breaks 100", x.tool(0, 2), 0);
                x.days(1);
                is("breaks 100", x.tool(0, 2), 1);
                x.days(7);
                is("smith 0 of 9: not ahead of DAY 9", x.tool(0, 2), 1);
                x.days(1);
                is("smith 0 of 9", x.tool(0, 2), 0);
            }
        }
        promise = "4 the newest rules count, whichever was told first";
        ToolSaints x = new ToolSaints();
        for (int turn = 1; turn < 6; turn++) {
            String may = "may day=" + turn + ";";
            String wears = "wears " + turn + "+1;";
            Tape.year(x, plain + (turn % 2 == 0 ? may + wears : wears + may));
            is("may of turn " + turn, x.done(0), NONE);
            is("may of turn " + turn, x.later(turn, 0), 0);
            is("may of turn " + turn, x.later(turn + 1, 0), 1);
            x.days(turn + 1);
            is("wears of turn " + turn, x.tool(0, 1), 90 + turn + 1);
        }
    }

    private static void faults() {
        promise = "5 0 without, and ahead of any; its place NONE without; NONE for another what";
        ToolSaints x = new ToolSaints();
        is("ahead of any", x.fault(0), 0);
        is("ahead of any", x.fault(1), NONE);
        Tape.year(x, "!");
        is("the first byte", x.fault(1), 0);
        Tape.year(x, "fine 101;");
        is("the latest", x.fault(0), 4);
        is("the latest", x.fault(1), 5);
        for (int what : new int[] {-1, 2, MIN, MAX}) {
            is("fault(" + what + ")", x.fault(what), NONE);
        }
        x.on();
        x.shavings();
        is("of year() alone", x.fault(0), 4);
        Tape.year(x, "fine 100;");
        is("without", x.fault(0), 0);
        is("without", x.fault(1), NONE);
    }

    private static void hasEdges() {
        promise = "6 NONE for others";
        ToolSaints x = of(YARD);
        for (int what : new int[] {-1, 13, 14, MIN, MAX}) {
            is("has(" + what + ")", x.has(what), NONE);
        }
        promise = "6 full";
        ToolSaints y = of("kind k rests 29 of 30;" + many(8, "tool # is k worn 0;") + many(6, "hand h#;")
                + many(6, "job j# by 0 does k 1;") + "breaks 1;");
        for (int tool = 0; tool < 8; tool++) {
            y.hold(tool, 1);
        }
        is("8 HELD", y.has(7), 8);
        y.days(2);
        is("6 LATE", y.has(9), 6);
        is("none done", y.has(8), 0);
        for (int tool = 0; tool < 8; tool++) {
            y.hold(tool, 0);
        }
        y.days(1);
        is("6 done", y.has(8), 6);
        is("none LATE", y.has(9), 0);
        is("6 BROKEN", y.has(6), 6);
        is("6 KEPT", y.has(10), 6);
        is("18 ACTS", y.has(11), 18);
    }

    private static void finesPaid() {
        promise = "6 fines paid (9999 at most)";
        ToolSaints x = changed(onDay(IDLE + "fine 1;", 1), 2, 39, 3, 13);
        is("as told", x.has(5), 9997);
        x.days(1);
        is("9998", x.has(5), 9998);
        x.days(1);
        is("9999", x.has(5), 9999);
        x.days(1);
        is("9999 at most", x.has(5), 9999);
        is("later, too", x.later(100, NONE), 9999);
        x.undo();
        x.undo();
        is("later(1)", x.later(1, NONE), 9999);
        x.undo();
        is("later(1)", x.later(1, NONE), 9998);
        is("later(2)", x.later(2, NONE), 9999);
        is("later(3)", x.later(3, NONE), 9999);
        ToolSaints y = changed(onDay(IDLE + "fine 100;", 1), 2, 39, 3, 14);
        y.days(1);
        is("far beyond", y.has(5), 9999);
    }

    private static void letters() {
        promise = "7 letter k (0 .. 5); 0 behind it; NONE when there is none such";
        ToolSaints x = of(YARD);
        is("the first", x.letter(0, 0, 0), 's' - 'a' + 1);
        is("the last", x.letter(0, 0, 2), 'w' - 'a' + 1);
        is("behind it", x.letter(0, 0, 3), 0);
        is("behind it, 5", x.letter(0, 0, 5), 0);
        for (int k : new int[] {-1, 6, MIN, MAX}) {
            is("letter(0, 0, " + k + ")", x.letter(0, 0, k), NONE);
        }
        int[] counts = {2, 3, 2, 2};
        for (int sort = 0; sort < 4; sort++) {
            is("the last of sort " + sort, x.letter(sort, counts[sort] - 1, 0) > 0, true);
            for (int which : new int[] {-1, counts[sort], MIN, MAX}) {
                is("letter(" + sort + ", " + which + ", 0)", x.letter(sort, which, 0), NONE);
            }
        }
        for (int sort : new int[] {-1, 4, MIN, MAX}) {
            is("letter(" + sort + ", 0, 0)", x.letter(sort, 0, 0), NONE);
        }
    }

    private static void kinds() {
        promise = "8 in how many DAYS it rests next (0: on this one), whether it rests on this DAY";
        ToolSaints x = of("kind a rests 0 of 2;kind b rests 1 of 2;kind c rests 29 of 30;kind d rests 0 of 30;");
        int[][] due = {{0, 1, 29, 0}, {1, 0, 28, 29}, {0, 1, 27, 28}};
        for (int day = 0; day < 3; day++) {
            for (int kind = 0; kind < 4; kind++) {
                is("DAY " + day + " of " + kind, x.kind(kind, 4), due[day][kind]);
                is("DAY " + day + " of " + kind, x.kind(kind, 3), due[day][kind] == 0 ? 1 : 0);
            }
            x.days(1);
        }
        changed(x, 0, 0, 1, 29);
        is("DAY 29", x.kind(2, 4), 0);
        is("DAY 29", x.kind(3, 4), 1);
        changed(x, 0, 3, 1, 231);
        is("DAY 999, beyond it too", x.kind(2, 4), 20);
        is("DAY 999, beyond it too", x.kind(0, 4), 1);
        promise = "8 NONE when there is none such, or for others";
        for (int kind : new int[] {-1, 4, MIN, MAX}) {
            is("kind(" + kind + ", 0)", x.kind(kind, 0), NONE);
        }
        for (int what : new int[] {-1, 5, MIN, MAX}) {
            is("kind(0, " + what + ")", x.kind(0, what), NONE);
        }
        promise = "8 its TOOLS (bits)";
        is("none", x.kind(0, 2), 0);
        is("all eight", of("kind k rests 0 of 2;" + many(8, "tool # is k worn 0;")).kind(0, 2), 255);
    }

    private static void tools() {
        promise = "9 NONE when there is none such, or for others";
        ToolSaints x = of(YARD);
        for (int tool : new int[] {-1, 3, 8, MIN, MAX}) {
            is("tool(" + tool + ", 0)", x.tool(tool, 0), NONE);
        }
        for (int what : new int[] {-1, 4, MIN, MAX}) {
            is("tool(0, " + what + ")", x.tool(0, what), NONE);
        }
        is("the last one", x.tool(2, 0), 1);
    }

    private static void knowsEdges() {
        promise = "10 NONE when there are none such";
        ToolSaints x = of(YARD);
        for (int wrong : new int[] {-1, 3, 8, MIN, MAX}) {
            is("knows(" + wrong + ", 0)", x.knows(wrong, 0), NONE);
            is("knows(0, " + wrong + ")", x.knows(0, wrong), NONE);
        }
        is("knows(2, 2): a TOOL, but no HAND", x.knows(2, 2), NONE);
        is("the last ones", x.knows(1, 2), 5);
    }

    private static void jobs() {
        promise = "11 NONE when there is none such, or for others";
        ToolSaints x = of("kind k rests 0 of 2;kind q rests 0 of 2;job i by 3 does q 7;job j by 4 does k 1 q 2 k 3 q 4;");
        for (int job : new int[] {-1, 2, 6, MIN, MAX}) {
            is("job(" + job + ", 0)", x.job(job, 0), NONE);
            is("job(" + job + ", 10)", x.job(job, 10), NONE);
            is("job(" + job + ", 20)", x.job(job, 20), NONE);
        }
        for (int what : new int[] {-1, 4, 5, 9, 14, 19, 24, 29, 30, 100, MIN, MIN + 9, MIN + 10, MIN + 11, MIN + 20, MAX}) {
            is("job(1, " + what + ")", x.job(1, what), NONE);
        }
        for (int k = 0; k < 4; k++) {
            is("KIND of STEP " + k, x.job(1, 10 + k), k % 2);
            is("HOURS of STEP " + k, x.job(1, 20 + k), k + 1);
            is("KIND of STEP " + k + " of the other", x.job(0, 10 + k), k == 0 ? 1 : NONE);
            is("HOURS of STEP " + k + " of the other", x.job(0, 20 + k), k == 0 ? 7 : NONE);
        }
    }

    private static void lateOnItsTerm() {
        promise = "II, LATE by as many DAYS as the DAY is beyond its term; 0 when it is not";
        ToolSaints x = of("kind k rests 0 of 2;job j by 2 does k 1;");
        int[] due = {0, 0, 0, 1, 2};
        for (int day = 0; day < due.length; day++) {
            is("DAY " + day, x.job(0, 3), due[day]);
            is("DAY " + day, x.has(9), due[day] > 0 ? 1 : 0);
            x.days(1);
        }
        is("DAY 999 of term 0", onDay(IDLE, 999).job(0, 3), 999);
        is("DAY 999 of term 999", onDay(IDLE.replace("by 0", "by 999"), 999).job(0, 3), 0);
        is("DAY 999 of term 998", onDay(IDLE.replace("by 0", "by 998"), 999).has(9), 1);
        is("done, long beyond its term", changed(onDay(IDLE, 999), 4, 1).job(0, 3), 0);
        promise = "I, late: 0 if it is not";
        String text = ONE.replace("may all", "may late=%d") + "job j by 3 does k 1;";
        is("not beyond", of(String.format(text, 0)).done(0), 1);
        is("by one", of(String.format(text, 1)).done(0), 5);
        promise = "I, late in wears: as the JOB is not done yet";
        ToolSaints y = onDay(ONE + "job j by 3 does k 1;wears late;", 10);
        y.days(1);
        is("worn", y.tool(0, 1), 7);
    }

    private static int toolOf(ToolSaints x) {
        x.days(1);
        return x.kept(0, 2);
    }

    private static void chosenTools() {
        promise = "II, the TOOL that is least worn, of like ones the first, of those that can";
        String three = "kind k rests 29 of 30;tool a is k worn %d;tool b is k worn %d;tool c is k worn %d;hand h;job j by 9 does k 1;";
        is("the least worn", toolOf(of(String.format(three, 5, 4, 3))), 2);
        is("of like ones the first", toolOf(of(String.format(three, 5, 5, 5))), 0);
        is("of like ones the first", toolOf(of(String.format(three, 6, 5, 5))), 1);
        ToolSaints held = of(String.format(three, 1, 2, 3));
        held.hold(0, 1);
        is("not HELD", held.tool(0, 3) == 1 && held.days(1) == 1 ? held.kept(0, 2) : NONE, 1);
        ToolSaints broken = changed(of(String.format(three, 1, 2, 3)), 1, 1, 5, 1);
        is("not BROKEN", toolOf(broken), 1);
        is("for which may holds", toolOf(of(String.format(three, 1, 2, 3) + "may worn>1;")), 1);
        is("for none of them", of(String.format(three, 1, 2, 3) + "may worn>3;").days(1), 0);
        is("all are BROKEN", changed(of(String.format(three, 1, 2, 3)), 1, 1, 5, 1, 8, 1, 11, 1).days(1), 0);
        is("of its KIND", of("kind k rests 29 of 30;kind q rests 29 of 30;tool t is q worn 0;hand h;job j by 9 does k 1;").days(1), 0);
        promise = "II, without may: on no REST DAY of its KIND";
        String rests = "kind k rests 2 of 5;tool t is k worn 0;hand h;job j by 9 does k 1 k 1 k 1 k 1;";
        int[] due = {1, 1, 0, 1, 1};
        ToolSaints x = of(rests);
        for (int day = 0; day < 5; day++) {
            is("DAY " + day, x.days(1), due[day]);
        }
        promise = "II, those that have not worked on this DAY";
        String two = "kind k rests 29 of 30;" + many(2, "tool # is k worn 0;") + many(3, "hand h#;") + many(3, "job j# by 9 does k 1;");
        ToolSaints y = of(two);
        is("two TOOLS, three JOBS", y.days(1), 2);
        is("the first TOOL", y.kept(0, 2), 0);
        is("the second TOOL, more worn or not", y.kept(1, 2), 1);
        is("the third JOB on the next DAY", y.days(1), 1);
        promise = "I, used: how many TOOLS have worked on this DAY";
        ToolSaints z = of(two + "may used<1;");
        is("none so far", z.days(1), 1);
        is("none on the next DAY", z.days(1), 1);
        is("at most one ahead", of(two + "may used<2;").days(1), 2);
        is("one ahead", of(two + "may used=1;").days(1), 0);
    }

    private static void chosenHands() {
        promise = "II, its HAND is who knows it best, of like ones the first, of those who have not worked on this DAY";
        String base = "kind k rests 29 of 30;tool t is k worn 0;tool u is k worn 1;hand a;hand b;hand c;"
                + "job i by 9 does k 1;job j by 9 does k 1;";
        ToolSaints x = of(base + "knows b t 1;knows c t 1;knows b u 9;knows c u 2;");
        x.days(1);
        is("of like ones the first", x.kept(0, 3), 1);
        is("who has worked does not", x.kept(1, 3), 2);
        ToolSaints y = of(base);
        y.days(1);
        is("of all alike the first", y.kept(0, 3), 0);
        is("then the second", y.kept(1, 3), 1);
        ToolSaints z = of(base.replace("hand a;hand b;hand c;", "hand a;"));
        is("one HAND works once a DAY", z.days(1), 1);
        is("no HAND", of(base.replace("hand a;hand b;hand c;", "") + "may all;").days(1), 0);
        promise = "II, with its HAND the TEST of may holds";
        ToolSaints w = of(base + "knows a t 5;may knows<5;");
        w.days(1);
        is("another TOOL, as its best HAND knows t too well", w.kept(0, 2), 1);
    }

    private static int wornBy(int worn, String wears) {
        ToolSaints x = of("kind k rests 1 of 30;tool t is k worn " + worn + ";hand h;job j by 9 does k 9;" + wears);
        x.days(1);
        return x.tool(0, 1);
    }

    private static void wearEdges() {
        promise = "II, the TOOL wears by the SUM of wears, 0 .. 99 (below is 0, above 99; HOURS without), 100 at most";
        is("below 0", wornBy(7, "wears 0-1;"), 7);
        is("far below 0", wornBy(7, "wears 0-9999*9999;"), 7);
        is("0", wornBy(7, "wears 0;"), 7);
        is("1", wornBy(7, "wears 1;"), 8);
        is("98", wornBy(0, "wears 98;"), 98);
        is("99", wornBy(0, "wears 99;"), 99);
        is("100 is 99", wornBy(0, "wears 100;"), 99);
        is("far above is 99", wornBy(0, "wears 9999*9999;"), 99);
        is("100 together", wornBy(1, "wears 99;"), 100);
        is("100 at most", wornBy(2, "wears 99;"), 100);
        is("100 at most", wornBy(99, "wears 99;"), 100);
        is("HOURS without", wornBy(90, ""), 99);
        is("HOURS without, 100 at most", wornBy(95, ""), 100);
        is("as it is worn then", wornBy(10, "wears worn;"), 20);
        ToolSaints first = of("kind k rests 29 of 30;tool a is k worn 8;tool b is k worn 3;hand h;hand g;knows h a 4;knows g b 5;"
                + "job j by 9 does k 1;may worn=8;wears worn*knows;");
        first.days(1);
        is("of the TOOL and the HAND that work, though another TOOL was asked", first.tool(0, 1), 8 + 32);
        is("100 stays below breaks of a TOOL at 100", changed(of("kind k rests 1 of 30;tool t is k worn 0;hand h;"
                + "job j by 9 does k 9;"), 4, 100).later(1, 0), 1);
        promise = "II, the HAND knows it one better (9 at most)";
        int[][] due = {{0, 1}, {7, 8}, {8, 9}, {9, 9}};
        for (int[] row : due) {
            ToolSaints x = of(ONE + "knows h t " + row[0] + ";hand g;knows g t 0;job j by 9 does k 1;");
            x.days(1);
            is("from " + row[0], x.knows(0, 0), row[1]);
            is("the other one", x.knows(1, 0), 0);
        }
    }

    private static void breaksEdges() {
        promise = "II, if it is worn as much as breaks then, it is BROKEN";
        String text = "kind k rests 29 of 30;tool t is k worn 10;hand h;job j by 99 does k 5 k 5;breaks %d;smith 7 of 9;";
        int[][] due = {{14, 1}, {15, 1}, {16, 0}, {1, 1}, {100, 0}};
        for (int[] row : due) {
            ToolSaints x = of(String.format(text, row[0]));
            is("not BROKEN at first", x.tool(0, 2), 0);
            is("it works once", x.days(1), 1);
            is("breaks " + row[0], x.tool(0, 2), row[1]);
            is("worn " + row[0], x.tool(0, 1), 15);
            is("it works again", x.days(1), 1 - row[1]);
        }
        ToolSaints y = of(String.format(text, 100).replace("worn 10", "worn 95"));
        y.days(1);
        is("at 100", y.tool(0, 2), 1);
        ToolSaints z = of(String.format(text, 10) + "wears 0;");
        z.days(1);
        is("worn by nothing, but as much", z.tool(0, 2), 1);
    }

    private static void smithEdges() {
        promise = "II, on a DAY first, if it is the smith's, all BROKEN TOOLS are MENDED: not BROKEN, worn 0";
        String text = "kind k rests 29 of 30;tool t is k worn 40;tool u is k worn 50;hand h;job j by 99 does k 1 k 1 k 1 k 1;"
                + "breaks 30;smith 2 of 3;may worn<30;";
        ToolSaints x = changed(of(text), 5, 1, 1, 1);
        is("DAY 1 is not the smith's", x.days(1), 0);
        is("BROKEN still", x.tool(0, 2), 1);
        is("DAY 2 is, ahead of the work", x.days(1), 1);
        is("MENDED, worn by its work alone", x.tool(0, 1), 1);
        is("not BROKEN", x.tool(0, 2), 0);
        is("one that is not BROKEN stays as worn", x.tool(1, 1), 50);
        ToolSaints y = changed(of(text), 5, 1, 8, 1, 6, 1, 9, 1, 1, 2);
        is("HELD ones do not work", y.days(1), 0);
        is("but are MENDED", y.has(6), 0);
        is("worn 0", y.tool(0, 1) + y.tool(1, 1), 0);
        is("HELD still", y.has(7), 2);
        ToolSaints z = changed(of(text.replace("smith 2 of 3;", "")), 5, 1);
        z.days(1);
        is("DAY 0 is the smith's without", z.tool(0, 2), 0);
        ToolSaints w = changed(of(text.replace("smith 2 of 3;", "smith 29 of 30;")), 5, 1, 0, 3, 1, 221);
        is("DAY 989 leaves 29 by 30", w.days(1), 1);
    }

    private static void finesOfDays() {
        promise = "II, on a REST DAY the fine is paid; at last for each JOB that is LATE (and was not done on it)";
        String two = "kind k rests 0 of 2;tool t is k worn 0;hand h;may %s;fine 7;job i by 1 does k 1;job j by 1 does k 1;";
        ToolSaints x = of(String.format(two, "all"));
        int[] due = {7, 7, 7};
        for (int day = 0; day < 3; day++) {
            x.days(1);
            is("behind DAY " + day, x.has(5), due[day]);
        }
        ToolSaints y = of(String.format(two, "not all"));
        int[] idle = {0, 0, 14, 28};
        for (int day = 0; day < 4; day++) {
            y.days(1);
            is("none can work, behind DAY " + day, y.has(5), idle[day]);
        }
        ToolSaints z = of(String.format(two, "day=2 or day=3"));
        z.days(3);
        is("DAY 2: a REST DAY, i is done on it, j is LATE", z.has(5), 14);
        z.days(1);
        is("DAY 3: no REST DAY, j is done on it", z.has(5), 14);
        z.days(50);
        is("nothing more", z.has(5), 14);
        ToolSaints w = onDay("kind k rests 0 of 2;tool t is k worn 0;hand h;fine 7;job i by 1 does k 1 k 1;", 3);
        is("a STEP, but not the last one: LATE", w.later(1, NONE), 7);
    }

    private static void laterEdges() {
        promise = "12 behind n DAYS AHEAD (0 .. 100), not beyond DAY 999; NONE when n can't be, or there is none such";
        ToolSaints x = of(ONE + "job j by 0 does k 1 k 1;");
        is("n 0: now", x.later(0, 0), 0);
        is("n 0: fines", x.later(0, NONE), 0);
        is("n 1", x.later(1, 0), 1);
        is("n 100", x.later(100, 0), 2);
        for (int n : new int[] {-1, 101, MIN, MAX, MAX - 998}) {
            is("later(" + n + ", 0)", x.later(n, 0), NONE);
            is("later(" + n + ", NONE)", x.later(n, NONE), NONE);
        }
        for (int job : new int[] {-2, 1, 6, MIN, MAX}) {
            is("later(1, " + job + ")", x.later(1, job), NONE);
            is("later(0, " + job + ")", x.later(0, job), NONE);
        }
        ToolSaints y = onDay(IDLE, 899);
        is("up to DAY 999", y.later(100, NONE), 500);
        y.days(1);
        is("beyond it", y.later(100, NONE), NONE);
        is("up to it", y.later(99, NONE), 500);
        ToolSaints z = onDay(IDLE, 999);
        is("on DAY 999: now", z.later(0, 0), 0);
        is("on DAY 999: fines", z.later(0, NONE), 0);
        is("on DAY 999: no more", z.later(1, 0), NONE);
        is("the 100th DAY is worked", of(ONE.replace("may all", "may day=99") + "job j by 0 does k 1;").later(100, 0), 1);
        is("the 101st is not", of(ONE.replace("may all", "may day=100") + "job j by 0 does k 1;").later(100, 0), 0);
    }

    private static void doneEdges() {
        promise = "13 behind how many DAYS AHEAD a JOB is done (0: now); NONE when it is not, or there is none such";
        String text = ONE.replace("may all", "may day=%d") + "job j by 0 does k 1;";
        is("on the DAY that comes now", of(String.format(text, 0)).done(0), 1);
        is("behind 100", of(String.format(text, 99)).done(0), 100);
        is("not behind 101", of(String.format(text, 100)).done(0), NONE);
        ToolSaints x = of(String.format(text, 0));
        x.days(1);
        is("now", x.done(0), 0);
        for (int job : new int[] {-1, 1, 6, MIN, MAX}) {
            is("done(" + job + ")", x.done(job), NONE);
        }
        is("on DAY 998, the last that goes by", onDay(String.format(text, 998), 899).done(0), 100);
        is("on DAY 998, as it comes now", onDay(String.format(text, 998), 998).done(0), 1);
        is("not on DAY 999", onDay(String.format(text, 999), 950).done(0), NONE);
        is("on DAY 999: not any more", onDay(String.format(text, 999), 999).done(0), NONE);
        is("on DAY 999: done is done", changed(onDay(String.format(text, 999), 999), 8, 1).done(0), 0);
        is("never", of(IDLE).done(0), NONE);
        is("one STEP a DAY", of(ONE + "job j by 0 does k 1 k 1 k 1 k 1;").done(0), 4);
        is("a JOB of like ones waits", of(ONE + many(6, "job # by 0 does k 1 k 1 k 1 k 1;")).done(5), 24);
    }

    private static void lateEdges() {
        promise = "14 all that is LATE, n DAYS AHEAD (1 .. 100); NONE when n can't be";
        ToolSaints x = of(IDLE + "job i by 1 does k 1;");
        is("DAY 0", x.late(1), 0);
        is("DAY 1", x.late(2), 1);
        is("DAY 2", x.late(3), 1 + 2 + 1);
        is("100 DAYS", x.late(100), 99 * 100 / 2 + 98 * 99 / 2);
        for (int n : new int[] {0, -1, 101, MIN, MAX, MAX - 998}) {
            is("late(" + n + ")", x.late(n), NONE);
        }
        is("up to DAY 999", onDay(IDLE, 899).late(100), 99900 - 5050);
        is("beyond it", onDay(IDLE, 900).late(100), NONE);
        is("up to it", onDay(IDLE, 998).late(1), 998);
        is("DAY 999", onDay(IDLE, 999).late(1), NONE);
        is("the most there can be", onDay("kind k rests 0 of 2;" + many(6, "job # by 0 does k 1;"), 899).late(100), 6 * (99900 - 5050));
        promise = "III, of a JOB that is done on a DAY: not on that one";
        String text = ONE.replace("may all", "may day=5") + "job j by 0 does k 1;";
        is("ahead of it", of(text).late(5), 10);
        is("on it", of(text).late(6), 10);
        is("behind it", of(text).late(100), 10);
    }

    private static void orderEdges() {
        promise = "15 ORDER, n DAYS AHEAD (1 .. 30): k NONE or the k-th place; NONE when n can't be, or there is none such";
        ToolSaints x = of(ONE + "job a by 9 does k 1;job b by 0 does k 1 k 1;job c by 0 does k 1;");
        is("by numbers: b and c on DAY 1, c on DAY 2", x.late(30), 1 + 1 + 2);
        is("least: c on DAY 1, or b", x.order(30, NONE), 1);
        is("b, c, a or c, b, a: the first", x.order(30, 0), 1);
        is("then c", x.order(30, 1), 2);
        is("then a", x.order(30, 2), 0);
        is("n 1", x.order(1, NONE), 0);
        is("n 1: all are alike", x.order(1, 0) * 100 + x.order(1, 1) * 10 + x.order(1, 2), 12);
        for (int n : new int[] {0, -1, 31, MIN, MAX}) {
            is("order(" + n + ", NONE)", x.order(n, NONE), NONE);
            is("order(" + n + ", 0)", x.order(n, 0), NONE);
        }
        for (int k : new int[] {-2, 3, 6, MIN, MAX}) {
            is("order(30, " + k + ")", x.order(30, k), NONE);
        }
        String late = ONE + "job a by 999 does k 1;job b by 0 does k 1;";
        is("up to DAY 999", onDay(late, 969).order(30, 0), 1);
        is("beyond it", onDay(late, 970).order(30, 0), NONE);
        is("up to it", onDay(late, 998).order(1, NONE), 0);
        is("DAY 999", onDay(late, 999).order(1, NONE), NONE);
        is("no JOBS", of(ONE).order(1, NONE), 0);
        is("no JOBS", of(ONE).order(1, 0), NONE);
        is("one JOB", of(ONE + "job a by 0 does k 1;").order(1, 0), 0);
        ToolSaints six = of(ONE + many(5, "job # by 9 does k 1 k 1;") + "job last by 0 does k 1;");
        int[] row = {5, 0, 1, 2, 3, 4};
        for (int k = 0; k < 6; k++) {
            is("six JOBS, place " + k, six.order(5, k), row[k]);
        }
        ToolSaints down = onDay(ONE + "job a by 5 does k 1;job b by 4 does k 1;job c by 3 does k 1;job d by 2 does k 1;"
                + "job e by 1 does k 1;job f by 0 does k 1;", 1);
        is("no one is LATE", down.order(30, NONE), 0);
        for (int k = 0; k < 6; k++) {
            is("the last row of all, place " + k, down.order(30, k), 5 - k);
        }
    }

    private static void orderLikes() {
        promise = "III, ORDER: of like ones the first by JOBS";
        ToolSaints x = of(ONE + many(4, "job # by 9 does k 1;"));
        for (int k = 0; k < 4; k++) {
            is("none is LATE", x.order(4, k), k);
        }
        ToolSaints y = of(ONE + many(3, "job # by 0 does k 1;"));
        for (int k = 0; k < 3; k++) {
            is("all as LATE in each row", y.order(9, k), k);
        }
        is("the third one on DAY 1", y.order(9, NONE), 1);
        promise = "III, ORDER: JOBS that are done stand by their numbers too";
        ToolSaints z = of(ONE + "job a by 9 does k 1;job b by 9 does k 1;job c by 0 does k 1;");
        z.days(1);
        is("a is done", z.done(0), 0);
        is("a", z.order(3, 0), 0);
        is("c", z.order(3, 1), 2);
        is("b", z.order(3, 2), 1);
        promise = "15 as it is now, not as it was when asked last";
        is("asked", z.order(3, NONE), 0);
        z.due(1, 0);
        is("asked anew", z.order(3, NONE), 1);
        z.undo();
        is("asked anew", z.order(3, NONE), 0);
        is("with another n", z.order(1, NONE), 0);
        changed(z, 0, 0, 1, 3);
        is("asked anew behind on(): b or c, on DAY 3", z.order(1, NONE), 0);
        changed(z, 15, 0, 16, 0);
        is("asked anew behind on()", z.order(1, NONE), 0);
    }

    private static void askedAnew() {
        promise = "15, 16 as it is now, not as it was when asked last";
        String text = "kind k rests 0 of 3;tool t is k worn 0;hand h;fine 0;job a by %d does k 1;job b by 0 does k 1;";
        ToolSaints x = onDay(String.format(text, 999), 1);
        for (int n : new int[] {1, 2, 30}) {
            is("order", x.order(n, NONE), 0);
            is("order", x.order(n, 0), 1);
            is("moved: none", x.moved(n, 0), NONE);
            x.due(0, 0);
            is("order behind due()", x.order(n, NONE), 1);
            x.undo();
            is("order behind undo()", x.order(n, NONE), 0);
            x.days(1);
            x.due(0, 0);
            is("order behind days(): a is done, b on DAY 2", x.order(n, NONE), 0);
            is("moved behind days(): none, DAY 3 rests", x.moved(1, 0), NONE);
            x.undo();
            x.undo();
        }
        for (int n : new int[] {1, 2, 30}) {
            is("order", x.order(n, NONE), 0);
            changed(x, 0, 0, 1, 3);
            is("order behind on()", x.order(n, NONE), 3);
            is("moved behind on(): a on DAY 3, b on DAY 4, not on 5", x.moved(n, 2), n == 1 ? NONE : 4);
            changed(x, 0, 0, 1, 1);
            is("order behind on()", x.order(n, NONE), 0);
            is("moved behind on()", x.moved(n, 2), NONE);
            Tape.year(x, IDLE);
            is("order behind year()", x.order(n, NONE), n * (n - 1) / 2);
            Tape.year(x, String.format(text, 999));
            is("order behind year(): b on DAY 1", x.order(n, NONE), 0);
            changed(x, 0, 0, 1, 1);
        }
        promise = "12 .. 19 by numbers and REST DAYS as they are, whatever was asked ahead";
        ToolSaints y = onDay("kind k rests 0 of 3;kind q rests 1 of 3;tool t is k worn 0;tool u is q worn 0;hand h;"
                + "job a by 0 does k 1;job b by 0 does q 1;job c by 0 does k 1;", 3);
        int late = y.late(30);
        int done = y.done(0) * 100 + y.done(1) * 10 + y.done(2);
        is("DAY 3: q alone; 4: k alone; 5: the other k", late, 3 + 3 + 4);
        is("done", done, 213);
        y.order(30, 0);
        is("late behind order()", y.late(30), late);
        is("done behind order()", y.done(0) * 100 + y.done(1) * 10 + y.done(2), done);
        y.moved(30, 0);
        is("late behind moved()", y.late(30), late);
        is("later behind moved()", y.later(2, 0) * 100 + y.later(2, 1) * 10 + y.later(2, 2), 110);
        y.order(30, 0);
        is("hangs behind order()", y.hangs(0, 2), 1);
        y.order(30, 0);
        is("guard behind order()", y.guard(0, 2), 1);
        y.order(30, 0);
        is("moved behind order(): with one HAND never less than 10", y.moved(30, 2), NONE);
        y.order(30, 0);
        Tape.shavings(y, 0, 1);
        is("shavings behind order()", y.when(0), 1);
    }

    private static void orderOfBegunJobs() {
        promise = "15 of JOBS that are begun";
        ToolSaints x = onDay(ONE + "job a by 0 does k 1 k 1 k 1 k 1;job b by 0 does k 1 k 1 k 1 k 1;", 9);
        changed(x, 8, 1, 11, 3);
        is("by numbers: a on DAYS 9, 10, b on 9 .. 11", x.late(9), 9 + 10 + 9 + 10 + 11);
        is("b first: a alone on 9 .. 11", x.order(9, NONE), 9 + 10 + 11);
        is("b", x.order(9, 0), 1);
        is("a", x.order(9, 1), 0);
    }

    private static void movedEdges() {
        promise = "16 MOVED, n DAYS AHEAD (1 .. 60); NONE without, when n can't be, or for others";
        String text = "kind k rests 1 of 2;tool t is k worn 0;hand h;job j by 0 does k 1;";
        ToolSaints x = onDay(text, 1);
        is("n 1", x.moved(1, 0), 0);
        is("n 1, its REST DAY", x.moved(1, 1), 0);
        is("n 1, less by", x.moved(1, 2), 1);
        is("n 60", x.moved(60, 2), 1);
        for (int n : new int[] {0, -1, 61, MIN, MAX}) {
            is("moved(" + n + ", 0)", x.moved(n, 0), NONE);
        }
        for (int what : new int[] {-1, 3, MIN, MAX}) {
            is("moved(60, " + what + ")", x.moved(60, what), NONE);
        }
        ToolSaints none = of(text);
        for (int what = 0; what < 3; what++) {
            is("not less than without", none.moved(60, what), NONE);
            is("no KINDS", new ToolSaints().moved(60, what), NONE);
            is("LATE, whatever moves", of(IDLE).moved(60, what), NONE);
        }
        is("up to DAY 999", onDay(text, 939).moved(60, 2), 939);
        is("beyond it", onDay(text, 940).moved(60, 2), NONE);
        is("beyond it", onDay(text, 941).moved(60, 2), NONE);
        is("up to it", onDay(text, 997).moved(2, 2), 997);
        is("DAY 999", onDay(text, 999).moved(1, 2), NONE);
        is("it has not moved", x.kind(0, 0), 1);
    }

    private static void movedLikes() {
        promise = "III, MOVED: another one of its ROUND; of like ones the first KIND, then the first DAY";
        String two = "kind k rests 0 of 3;kind q rests 0 of 4;tool t is k worn 0;tool u is q worn 0;hand h;hand g;"
                + "job i by 0 does k 1;job j by 0 does q 1;";
        ToolSaints x = onDay(two, 12);
        is("each of both would do: the first KIND", x.moved(9, 0), 0);
        is("the first DAY", x.moved(9, 1), 1);
        is("less by", x.moved(9, 2), 12);
        x.due(1, 999);
        is("only the first would do", x.moved(9, 0), 0);
        x.due(1, 0);
        x.due(0, 999);
        is("only the second would do", x.moved(9, 0), 1);
        is("its first DAY", x.moved(9, 1), 1);
        x.undo();
        is("asked anew", x.moved(9, 0), 0);
        ToolSaints y = onDay("kind k rests 2 of 3;tool t is k worn 0;hand h;job i by 0 does k 1 k 1;", 1);
        is("by numbers: DAYS 1, 3", y.late(9), 1 + 2);
        is("on DAY 0 of 3: DAYS 1, 2", y.moved(9, 1), 0);
        is("less by", y.moved(9, 2), 2);
        ToolSaints z = onDay("kind k rests 29 of 30;tool t is k worn 0;hand h;job i by 0 does k 1;", 29);
        is("of the largest ROUND the first DAY", z.moved(9, 1), 0);
        ToolSaints w = onDay("kind k rests 0 of 30;tool t is k worn 0;hand h;job i by 0 does k 1;may rest=1 and day=59;", 30);
        is("the last DAY of its ROUND alone", w.moved(60, 1), 29);
        ToolSaints v = onDay("kind k rests 0 of 2;tool t is k worn 0;hand h;job i by 0 does k 1 k 1;", 2);
        is("it never goes without one: DAYS 3, 5", v.late(9), 2 + 3 + 4);
        is("DAYS 2, 4", v.moved(9, 2), 4);
        is("the only other one", v.moved(9, 1), 1);
    }

    private static void makeshiftEdges() {
        promise = "17 k NONE: what all serve at together, 0 for itself; NONE when there is none, none such, or for others";
        String six = many(6, "kind # rests 0 of 2;");
        ToolSaints x = of(six + "serves nb for na at 99;serves nc for nb at 99;serves nd for nc at 99;serves ne for nd at 99;"
                + "serves nf for ne at 99;");
        is("the dearest", x.makeshift(5, 0, NONE), 495);
        for (int k = 0; k < 5; k++) {
            is("KIND " + k, x.makeshift(5, 0, k), k + 1);
        }
        for (int k : new int[] {5, 6, MAX, -2, MIN}) {
            is("makeshift(5, 0, " + k + ")", x.makeshift(5, 0, k), NONE);
        }
        is("the other way round: none", x.makeshift(0, 5, NONE), NONE);
        is("the other way round: none", x.makeshift(0, 5, 0), NONE);
        for (int kind = 0; kind < 6; kind++) {
            is("itself", x.makeshift(kind, kind, NONE), 0);
            is("itself", x.makeshift(kind, kind, 0), NONE);
        }
        for (int wrong : new int[] {-1, 6, 7, MIN, MAX}) {
            is("makeshift(" + wrong + ", 0)", x.makeshift(wrong, 0, NONE), NONE);
            is("makeshift(0, " + wrong + ")", x.makeshift(0, wrong, NONE), NONE);
            is("makeshift(" + wrong + ", " + wrong + ")", x.makeshift(wrong, wrong, NONE), NONE);
        }
        is("a KIND more than there is", of("kind k rests 0 of 2;").makeshift(1, 1, NONE), NONE);
        ToolSaints ring = of(six + "serves nb for na at 1;serves na for nb at 1;");
        is("itself in a ring", ring.makeshift(0, 0, NONE), 0);
        is("itself in a ring", ring.makeshift(0, 0, 0), NONE);
        is("out of the ring", ring.makeshift(2, 0, NONE), NONE);
    }

    private static void makeshiftLikes() {
        promise = "III, MAKESHIFT: of like ones the fewest, then KIND by KIND the first";
        String six = many(6, "kind # rests 0 of 2;");
        ToolSaints x = of(six + "serves nb for na at 1;serves nc for nb at 1;serves nd for nc at 1;serves nd for na at 3;");
        is("together", x.makeshift(3, 0, NONE), 3);
        is("one, not three", x.makeshift(3, 0, 0), 3);
        ToolSaints dearer = of(six + "serves nb for na at 1;serves nc for nb at 1;serves nd for nc at 1;serves nd for na at 4;");
        is("three, as they are less", dearer.makeshift(3, 0, NONE), 3);
        is("three, as they are less", dearer.makeshift(3, 0, 0), 1);
        ToolSaints y = of(six + "serves nf for na at 1;serves nd for na at 2;serves nd for nf at 1;serves nb for nd at 2;"
                + "serves nc for na at 3;serves nb for nc at 1;");
        is("over nf, nd; nd; nc: at 4 each", y.makeshift(1, 0, NONE), 4);
        is("the fewest, then the first KIND", y.makeshift(1, 0, 0), 2);
        is("then itself", y.makeshift(1, 0, 1), 1);
        ToolSaints z = of(six + "serves nb for na at 5;serves ne for nb at 5;serves nf for ne at 5;serves nc for nb at 5;"
                + "serves nf for nc at 5;");
        is("the second KIND decides", z.makeshift(5, 0, 1), 2);
        ToolSaints first = of(six + "serves na for nf at 1;serves nb for na at 1;serves nc for nf at 1;serves nb for nc at 1;");
        is("the first KIND of all", first.makeshift(1, 5, 0), 0);
        is("the first KIND of all at last", first.makeshift(0, 5, 0), 0);
        is("at", first.makeshift(0, 5, NONE), 1);
    }

    private static void hangsEdges() {
        promise = "18 n DAYS AHEAD (1 .. 60), as bits; NONE when there is none such, or n can't be";
        ToolSaints x = of(ONE + "job j by 0 does k 1;");
        is("n 1", x.hangs(0, 1), 1);
        is("n 60", x.hangs(0, 60), 1);
        for (int n : new int[] {0, -1, 61, MIN, MAX}) {
            is("hangs(0, " + n + ")", x.hangs(0, n), NONE);
        }
        for (int job : new int[] {-1, 1, 6, MIN, MAX}) {
            is("hangs(" + job + ", 1)", x.hangs(job, 1), NONE);
        }
        String text = ONE.replace("may all", "may day=%d") + "job j by 0 does k 1;";
        is("done on the 60th DAY", of(String.format(text, 59)).hangs(0, 60), 1);
        is("not by the 59th", of(String.format(text, 59)).hangs(0, 59), 0);
        is("not by the 60th", of(String.format(text, 60)).hangs(0, 60), 0);
        is("up to DAY 999", onDay(String.format(text, 998), 939).hangs(0, 60), 1);
        is("beyond it", onDay(String.format(text, 998), 940).hangs(0, 60), NONE);
        is("DAY 999", onDay(String.format(text, 998), 999).hangs(0, 1), NONE);
        promise = "III, HANGS: if it is not done, but is behind so many DAYS; one that is not HELD";
        is("never done", of(IDLE).hangs(0, 60), 0);
        x.days(1);
        is("done already", x.hangs(0, 1), 0);
        x.undo();
        x.hold(0, 1);
        is("HELD: it is never done", x.hangs(0, 60), 0);
        ToolSaints two = of(ONE + "tool u is k worn 0;job j by 0 does k 1;");
        two.hold(1, 1);
        is("the second is HELD: it hangs on the first", two.hangs(0, 1), 1);
        two.hold(1, 0);
        two.hold(0, 1);
        is("the first is HELD: it hangs on the second", two.hangs(0, 1), 2);
        String eight = "kind k rests 29 of 30;" + many(8, "tool # is k worn 0;") + many(6, "hand h#;");
        is("all eight: one each of a KIND", of(many(4, "kind k# rests 29 of 30;") + "tool a is kna worn 0;tool b is knb worn 0;"
                + "tool c is knc worn 0;tool d is knd worn 0;hand h;job j by 0 does kna 1 knb 1 knc 1 knd 1;").hangs(0, 4), 15);
        is("six JOBS, eight TOOLS", of(eight + many(6, "job j# by 0 does k 1;")).hangs(5, 1), 0);
        ToolSaints y = of(eight + many(6, "job j# by 0 does k 1;"));
        y.hold(0, 1);
        y.hold(1, 1);
        is("six JOBS, six TOOLS left", y.hangs(5, 1), 252);
    }

    private static void guardEdges() {
        promise = "19 n DAYS AHEAD (1 .. 30): bits (0: it is not done anyway); NONE when 3 are not enough, none such, n can't be";
        ToolSaints x = of(ONE + "job j by 0 does k 1;");
        is("n 1", x.guard(0, 1), 1);
        is("n 30", x.guard(0, 30), 1);
        for (int n : new int[] {0, -1, 31, MIN, MAX}) {
            is("guard(0, " + n + ")", x.guard(0, n), NONE);
        }
        for (int job : new int[] {-1, 1, 6, MIN, MAX}) {
            is("guard(" + job + ", 1)", x.guard(job, 1), NONE);
        }
        String text = ONE.replace("may all", "may day=%d") + "job j by 0 does k 1;";
        is("done on the 30th DAY", of(String.format(text, 29)).guard(0, 30), 1);
        is("not by the 29th", of(String.format(text, 29)).guard(0, 29), 0);
        is("not by the 30th", of(String.format(text, 30)).guard(0, 30), 0);
        is("up to DAY 999", onDay(String.format(text, 998), 969).guard(0, 30), 1);
        is("beyond it", onDay(String.format(text, 998), 970).guard(0, 30), NONE);
        is("DAY 999", onDay(String.format(text, 998), 999).guard(0, 1), NONE);
        is("never done", of(IDLE).guard(0, 30), 0);
        x.days(1);
        is("done already", x.guard(0, 1), NONE);
        promise = "III, GUARD: the fewest TOOLS (not HELD so far; 3 at most); of like ones the least bits";
        String base = "kind k rests 29 of 30;hand h;job j by 0 does k 1;";
        int[] due = {0, 1, 3, 7, NONE, NONE, NONE, NONE, NONE};
        for (int count = 0; count < due.length; count++) {
            ToolSaints y = of(base + many(count, "tool # is k worn 0;"));
            is(count + " TOOLS", y.guard(0, 1), due[count]);
            if (count > 0) {
                y.hold(0, 1);
                is(count + " TOOLS, the first HELD", y.guard(0, 1), due[count - 1] > 0 ? due[count - 1] << 1 : due[count - 1]);
            }
        }
        ToolSaints z = of("kind k rests 29 of 30;kind q rests 29 of 30;tool a is k worn 0;tool b is k worn 0;tool c is q worn 0;"
                + "tool d is q worn 0;hand h;job j by 0 does q 1 k 1;");
        is("two of either KIND: the least bits", z.guard(0, 9), 3);
        is("one DAY is not enough anyway", z.guard(0, 1), 0);
        z.hold(0, 1);
        is("one is fewer than two", z.guard(0, 9), 2);
        z.hold(3, 1);
        is("of like ones the least", z.guard(0, 9), 2);
        z.hold(0, 0);
        is("one of the other KIND", z.guard(0, 9), 4);
    }

    private static void loanEdges() {
        promise = "20 NONE when it has none at first, when there is none such, or for others";
        String two = "kind k rests 0 of 2;tool t is k worn 0;tool u is k worn 0;";
        ToolSaints x = of(two + many(3, "hand #;") + "knows na u 9;knows nc t 9;");
        is("nb knows all alike: its own", x.loan(1, 0), 1);
        is("na gets its own, then", x.loan(0, 0), 0);
        is("in the second round", x.loan(0, 1), 2);
        for (int what = 0; what < 3; what++) {
            is("nc has none at first", x.loan(2, what), NONE);
            for (int hand : new int[] {-1, 3, 6, MIN, MAX}) {
                is("loan(" + hand + ", " + what + ")", x.loan(hand, what), NONE);
            }
        }
        for (int what : new int[] {-1, 3, MIN, MAX}) {
            is("loan(0, " + what + ")", x.loan(0, what), NONE);
        }
        is("no TOOLS", of("hand h;").loan(0, 0), NONE);
        is("no HANDS", of(two).loan(0, 0), NONE);
        ToolSaints y = of(two + "hand h;knows h u 9;");
        is("a TOOL that no HAND has is none", y.loan(0, 0), 0);
        is("its round", y.loan(0, 1), 1);
        is("its ring", y.loan(0, 2), 1);
    }

    private static void loanRounds() {
        promise = "III, LOANS: its own, if that is among these; of like others the first TOOL";
        String six = "kind k rests 0 of 2;" + many(6, "tool t# is k worn 0;") + many(6, "hand h#;");
        ToolSaints alike = of(six);
        for (int hand = 0; hand < 6; hand++) {
            is("all alike: its own", alike.loan(hand, 0), hand);
            is("the first round", alike.loan(hand, 1), 1);
            is("a ring of one", alike.loan(hand, 2), 1);
        }
        ToolSaints ring = of(six + "knows hna tnb 1;knows hnb tnc 1;knows hnc tnd 1;knows hnd tne 1;knows hne tnf 1;knows hnf tna 1;");
        for (int hand = 0; hand < 6; hand++) {
            is("a ring of six", ring.loan(hand, 0), (hand + 1) % 6);
            is("the first round", ring.loan(hand, 1), 1);
            is("a ring of six", ring.loan(hand, 2), 6);
        }
        ToolSaints chain = of(six + "knows hnb tna 9;knows hnc tnb 9;knows hnd tnc 9;knows hne tnd 9;knows hnf tne 9;");
        for (int hand = 0; hand < 6; hand++) {
            is("each waits for the one ahead: its own at last", chain.loan(hand, 0), hand);
            is("round by round", chain.loan(hand, 1), hand + 1);
            is("a ring of one", chain.loan(hand, 2), 1);
        }
        ToolSaints likes = of(six + "knows hnf tnb 4;knows hnf tnd 4;knows hnb tnf 3;knows hnd tnf 9;knows hne tnd 2;knows hne tne 2;");
        is("of like others the first TOOL", likes.loan(5, 0), 1);
        is("who gets it back", likes.loan(1, 0), 5);
        is("a ring of two", likes.loan(5, 2), 2);
        is("its own among the best", likes.loan(4, 0), 4);
        is("who pointed in vain", likes.loan(3, 1), 2);
        is("gets its own", likes.loan(3, 0), 3);
    }

    private static void shavingRows() {
        promise = "21 1 to 16 rows of two bytes; NONE, refused (5), when it is none such";
        ToolSaints x = of(YARD);
        int[] most = new int[32];
        is("16 rows", Tape.shavings(x, most) >= 0, true);
        is("one row", Tape.shavings(x, 2, 0) >= 0, true);
        int[][] wrongs = {{}, {0}, {0, 0, 0}, new int[31], new int[33], new int[34], new int[1600], {3, 0}, {255, 0}, {0, 2},
            {0, 255}, {0, 0, 3, 0}, {0, 0, 0, 2}, {0, 0, 1, 1, 2}};
        for (int i = 0; i < wrongs.length; i++) {
            int[] rows = wrongs[i];
            refused("shavings, row " + i, 5, CallBoundaryTest::shaved, y -> Tape.shavings(y, rows) == NONE);
            Tape.shavings(x, rows);
            is("refused", x.status(5), i + 1);
        }
        most[31] = 2;
        is("the last byte of 16 rows", Tape.shavings(x, most), NONE);
        promise = "3, 21 what stood behind the end is none of it";
        ToolSaints y = of(YARD);
        y.feed(0x0200ffff, -1, -1, -1, -1);
        y.end(2);
        is("one row", y.shavings(), Tape.shavings(of(YARD), 2, 0));
    }

    private static ToolSaints shaved() {
        ToolSaints x = of(YARD);
        is("one row", Tape.shavings(x, 2, 0) > 0, true);
        return x;
    }

    private static void shavingDays() {
        promise = "III, SHAVINGS of one DAY AHEAD (0: the DAY that comes now; 60 at most, not DAY 999)";
        String text = ONE.replace("may all", "may day=%d") + "job j by 0 does k 1;";
        int[][] due = {{0, 1}, {59, 1}, {60, 1}, {61, 0}};
        for (int[] row : due) {
            ToolSaints x = of(String.format(text, row[0]));
            is("it works on DAY " + row[0], Tape.shavings(x, 0, 1), row[1]);
            is("when", x.when(0), row[1] == 1 ? row[0] : NONE);
            is("it does not work on all others", Tape.shavings(x, 0, 0), 61 - row[1]);
        }
        int[][] ends = {{937, 61}, {938, 61}, {939, 60}, {997, 2}, {998, 1}, {999, 0}};
        for (int[] row : ends) {
            ToolSaints x = onDay(String.format(text, 0), row[0]);
            is("from DAY " + row[0], Tape.shavings(x, 0, 0), row[1]);
            is("the last one", x.when(row[1] - 1), row[1] - 1);
            is("behind it", x.when(row[1]), NONE);
        }
        is("DAY 998 is asked", Tape.shavings(onDay(String.format(text, 998), 990), 0, 1), 1);
        is("DAY 999 is not", Tape.shavings(onDay(String.format(text, 999), 990), 0, 1), 0);
        is("that is not refused", onDay(String.format(text, 999), 990).status(5), 0);
        ToolSaints y = of(String.format(text, 3));
        is("the same row twice", Tape.shavings(y, 0, 1, 0, 1), 1);
        is("rows that deny one another", Tape.shavings(y, 0, 1, 0, 0), 0);
        y.hold(0, 1);
        is("a TOOL that is HELD", Tape.shavings(y, 0, 0), 61);
    }

    private static void whens() {
        promise = "22 of the latest shavings() of this YEAR that was not refused, as it was told then; NONE when there is none such";
        ToolSaints x = of(ONE + "job j by 0 does k 1 k 1;");
        is("ahead of any", x.when(0), NONE);
        Tape.shavings(x, 0, 1);
        is("k 0", x.when(0), 0);
        is("k 1", x.when(1), 1);
        for (int k : new int[] {-1, 2, 60, 61, 62, MIN, MAX}) {
            is("when(" + k + ")", x.when(k), NONE);
        }
        x.days(5);
        is("as it was told then", x.when(1), 1);
        x.undo();
        is("as it was told then", x.when(1), 1);
        changed(x, 0, 0, 1, 50);
        is("as it was told then", x.when(1), 1);
        Tape.shavings(x, 0, 2);
        is("a refused one does not count", x.when(1), 1);
        Tape.year(x, "x");
        is("nor does a refused YEAR", x.when(1), 1);
        Tape.shavings(x, 0, 1, 0, 0);
        is("the latest, of no DAY", x.when(0), NONE);
        Tape.shavings(x, 0, 0);
        is("full", x.when(58), 60);
        is("beyond", x.when(59), NONE);
        Tape.year(x, ONE);
        is("of this YEAR", x.when(0), NONE);
    }

    private static void daysEdges() {
        promise = "23 n DAYS go by (1 .. 100); NONE, refused (2), when it can't be (beyond DAY 999)";
        ToolSaints x = of(ONE + "job j by 0 does k 1 k 1;");
        int[] wrongs = {0, -1, 101, MIN, MAX, MAX - 998};
        for (int n : wrongs) {
            refused("days(" + n + ")", 2, CallBoundaryTest::wellUsed, y -> y.days(n) == NONE);
            x.days(n);
        }
        is("days(1)", x.days(1), 1);
        is("DAY 1", x.has(4), 1);
        is("days(100)", x.days(100), 1);
        is("DAY 101", x.has(4), 101);
        is("accepted ones are not refused", x.status(2), wrongs.length);
        ToolSaints y = onDay(ONE, 899);
        is("up to DAY 999", y.days(100), 0);
        is("DAY 999", y.has(4), 999);
        is("beyond it", y.days(1), NONE);
        is("DAY 999 still", y.has(4), 999);
        is("one ACT", y.has(11), 1);
        ToolSaints z = onDay(ONE, 900);
        is("beyond by one", z.days(100), NONE);
        is("it is DAY 900 still", z.has(4), 900);
        is("up to it", z.days(99), 0);
        is("without DRAWS", z.has(12), 1);
        is("no frost", of(ONE.replace("may all", "may frost=1") + "frost 100;job j by 0 does k 1;").days(100), 0);
    }

    private static void chanceEdges() {
        promise = "24 n DAYS by the seed (1 .. 100), one ACT; NONE, refused (2), when it can't be";
        ToolSaints x = of(ONE + "frost 100;job j by 0 does k 1 k 1;");
        int[] wrongs = {0, -1, 101, MIN, MAX, MAX - 998};
        for (int n : wrongs) {
            refused("chance(" + n + ")", 2, CallBoundaryTest::wellUsed, y -> y.chance(n) == NONE);
            x.chance(n);
        }
        is("chance(1)", x.chance(1), 1);
        is("chance(100)", x.chance(100), 100);
        is("DAY 101", x.has(4), 101);
        is("one ACT each", x.has(11), 2);
        ToolSaints y = onDay("frost 100;", 899);
        is("up to DAY 999", y.chance(100), 100);
        is("beyond it", y.chance(1), NONE);
        ToolSaints z = onDay("frost 100;", 900);
        is("beyond by one", z.chance(100), NONE);
        is("no DRAW", z.has(12), 1);
        is("up to it", z.chance(99), 99);
        is("KEPT as ever", x.kept(1, 0), 1);
        promise = "II, a frost is of its DAY alone";
        ToolSaints w = of(ONE.replace("may all", "may frost=1") + "frost 100;job j by 0 does k 1 k 1;");
        is("a DAY with it", w.chance(1), 1);
        is("worked", w.job(0, 2), 1);
        is("a DAY without DRAWS", w.days(1), 0);
        is("AHEAD there are none", w.later(100, 0), 1);
    }

    private static long drawn(long seed) {
        return (1103515245L * seed + 12345) % (1L << 31);
    }

    private static int seedThatDraws(int drawn) {
        int seed = 0;
        while (drawn(seed) / 64 % 100 != drawn) {
            seed++;
        }
        return seed;
    }

    private static void draws() {
        promise = "II, a DRAW of 100: below frost there is a frost; x becomes (1103515245 x + 12345) mod 2 to the 31";
        long[] seeds = {0, 1, 2, 77, 1L << 30, (1L << 31) - 1, (1L << 31) - 2};
        for (long seed : seeds) {
            long next = drawn(seed);
            int drawn = (int) (next / 64 % 100);
            ToolSaints x = of("frost " + drawn + ";");
            x.seed((int) seed);
            is("as much as frost is none, seed " + seed, x.chance(1), 0);
            is("the seed behind it", x.has(12), (int) next);
            ToolSaints y = of("frost " + (drawn + 1) + ";");
            y.seed((int) seed);
            is("below frost is one, seed " + seed, y.chance(1), 1);
        }
        ToolSaints z = of("frost 0;");
        long x = 1;
        for (int i = 0; i < 100; i++) {
            x = drawn(x);
        }
        is("never at 0", z.chance(100), 0);
        is("a DRAW each DAY", z.has(12), (int) x);
        z.seed(seedThatDraws(0));
        is("0 is not below 0", z.chance(1), 0);
        ToolSaints w = of("frost 100;");
        w.seed(seedThatDraws(99));
        is("99 is below 100", w.chance(1), 1);
    }

    private static void holds() {
        promise = "25 false, refused (3), when there is none such, it is so already, or for others";
        ToolSaints x = of(YARD);
        x.hold(1, 1);
        int[][] wrongs = {{-1, 1}, {3, 1}, {8, 1}, {32, 1}, {MIN, 1}, {MAX, 1}, {3, 0}, {-1, 0}, {1, 1}, {0, 0}, {2, 0}, {0, 2},
            {0, -1}, {1, 2}, {0, MIN}, {0, MAX}};
        for (int[] w : wrongs) {
            refused("hold(" + w[0] + ", " + w[1] + ")", 3, CallBoundaryTest::wellUsed, y -> !y.hold(w[0], w[1]));
            x.hold(w[0], w[1]);
        }
        is("refused", x.status(3), wrongs.length);
        is("the last TOOL", x.hold(2, 1), true);
        is("let go", x.hold(1, 0), true);
        is("held", x.tool(0, 3) * 100 + x.tool(1, 3) * 10 + x.tool(2, 3), 1);
        is("three ACTS", x.has(11), 3);
    }

    private static void swaps() {
        promise = "26 false, refused (3), when there are none such, or they are one";
        ToolSaints x = of(YARD);
        int[][] wrongs = {{0, 0}, {1, 1}, {0, 2}, {2, 0}, {-1, 0}, {0, -1}, {2, 3}, {-1, -1}, {MIN, 0}, {0, MAX}};
        for (int[] w : wrongs) {
            refused("swap(" + w[0] + ", " + w[1] + ")", 3, CallBoundaryTest::wellUsed, y -> !y.swap(w[0], w[1]));
            x.swap(w[0], w[1]);
        }
        is("refused", x.status(3), wrongs.length);
        is("swap(1, 0)", x.swap(1, 0), true);
        is("all they know", x.knows(0, 2) * 1000 + x.knows(0, 1) * 100 + x.knows(1, 0) * 10 + x.knows(1, 2), 5230);
        is("the first TOOL too", x.knows(0, 0), 0);
        ToolSaints full = of("kind k rests 0 of 2;" + many(8, "tool t# is k worn 0;") + many(6, "hand h#;")
                + "knows hna tna 1;knows hna tnh 2;knows hnf tna 3;knows hnf tnh 4;");
        is("swap(0, 5)", full.swap(0, 5), true);
        is("of 6 HANDS, 8 TOOLS", full.knows(5, 0) * 1000 + full.knows(5, 7) * 100 + full.knows(0, 0) * 10 + full.knows(0, 7), 1234);
    }

    private static void dues() {
        promise = "27 another DAY (0 .. 999); false, refused (3), when that can't be, there is none such, or it is that already";
        ToolSaints x = of(YARD);
        int[][] wrongs = {{0, -1}, {0, 1000}, {0, MIN}, {0, MAX}, {-1, 5}, {2, 5}, {6, 5}, {MIN, 5}, {MAX, 5}, {0, 1}, {1, 0}};
        for (int[] w : wrongs) {
            refused("due(" + w[0] + ", " + w[1] + ")", 3, () -> of(YARD), y -> !y.due(w[0], w[1]));
            x.due(w[0], w[1]);
        }
        is("refused", x.status(3), wrongs.length);
        is("due(0, 0)", x.due(0, 0), true);
        is("due(0, 999)", x.due(0, 999), true);
        is("due(1, 1)", x.due(1, 1), true);
        is("terms", x.job(0, 0) * 10 + x.job(1, 0), 9991);
        is("three ACTS", x.has(11), 3);
    }

    private static void undoes() {
        promise = "28 all is as it was ahead of it (but the seed); false, refused (4), when none can be";
        for (int left = 5; left >= 0; left--) {
            ToolSaints y = withActs(6);
            int seed = y.has(12);
            is("the seed is not the one ahead", seed != 9, true);
            for (int act = 5; act >= left; act--) {
                is("undo " + act, y.undo(), true);
                is("the seed stays", y.has(12), seed);
            }
            y.seed(9);
            is("all is as ahead of act " + left, all(y), all(withActs(left)));
        }
        ToolSaints x = withActs(0);
        is("none", x.undo(), false);
        is("refused", x.status(4), 1);
        act(x, 0);
        is("undo", x.undo(), true);
        is("none is left", x.undo(), false);
        is("refused", x.status(4), 2);
        act(x, 0);
        is("a refused undo changes nothing", x.undo(), true);
        promise = "28 no ACTS: refused calls, questions, seed(), image(), shavings()";
        x.days(0);
        x.hold(0, 0);
        x.swap(0, 0);
        x.due(0, 1);
        x.seed(3);
        x.image();
        Tape.shavings(x, 0, 0);
        x.later(5, 0);
        is("none", x.has(11), 0);
        is("none", x.undo(), false);
    }

    /** The seed is 9 ahead of each ACT, so that only the ACTS make a difference. */
    private static ToolSaints withActs(int count) {
        ToolSaints x = of(YARD + "frost 60;");
        x.seed(9);
        for (int act = 0; act < count; act++) {
            x.seed(9);
            act(x, act);
        }
        return x;
    }

    private static void act(ToolSaints x, int act) {
        switch (act) {
            case 0 -> is("days", x.days(1) >= 0, true);
            case 1 -> is("hold", x.hold(0, 1), true);
            case 2 -> is("swap", x.swap(0, 1), true);
            case 3 -> is("due", x.due(1, 77), true);
            case 4 -> is("let go", x.hold(0, 0), true);
            default -> is("chance", x.chance(7) >= 0, true);
        }
    }

    private static void undoneRing() {
        promise = "II, the last 20 can be undone";
        ToolSaints x = of(YARD);
        for (int day = 100; day < 120; day++) {
            x.due(0, day);
            is("ACTS", x.has(11), day - 99);
        }
        x.due(0, 120);
        is("20 at most", x.has(11), 20);
        for (int day = 119; day >= 100; day--) {
            is("undo", x.undo(), true);
            is("its term", x.job(0, 0), day);
        }
        is("the 21st", x.undo(), false);
        is("the first one stays", x.job(0, 0), 100);
        is("none", x.has(11), 0);
        for (int day = 200; day < 245; day++) {
            x.due(0, day);
        }
        for (int i = 0; i < 7; i++) {
            x.undo();
        }
        is("seven back", x.job(0, 0), 237);
        is("13 are left", x.has(11), 13);
        for (int day = 300; day < 310; day++) {
            x.due(0, day);
        }
        is("20 again", x.has(11), 20);
        for (int i = 0; i < 20; i++) {
            x.undo();
        }
        is("ahead of the last 20", x.job(0, 0), 227);
        is("no more", x.undo(), false);
        promise = "28 what was KEPT ahead of an ACT is KEPT again";
        ToolSaints y = of(YARD);
        y.days(1);
        String before = all(y);
        y.days(2);
        y.undo();
        is("as ahead", all(y), before);
        y.hold(1, 1);
        y.days(2);
        is("another TOOL now", y.kept(3, 2), 0);
        y.undo();
        y.undo();
        is("as ahead", all(y), before);
    }

    private static void seeds() {
        promise = "29 false, refused (5), when it is below 0";
        ToolSaints x = new ToolSaints();
        is("seed(0)", x.seed(0), true);
        is("0", x.has(12), 0);
        is("seed(MAX)", x.seed(MAX), true);
        is("MAX", x.has(12), MAX);
        is("seed(-1)", x.seed(-1), false);
        is("seed(MIN)", x.seed(MIN), false);
        is("refused", x.status(5), 2);
        is("it stays", x.has(12), MAX);
        is("the same again is fine", x.seed(MAX), true);
        is("no ACT", x.has(11), 0);
    }

    private static void keptEdges() {
        promise = "30 from the oldest on; NONE when there is none such, or for others";
        ToolSaints x = of(YARD);
        is("nothing so far", x.kept(0, 0), NONE);
        x.days(3);
        is("the oldest", x.kept(0, 0), 0);
        is("the latest", x.kept(3, 0), 2);
        for (int k : new int[] {-1, 4, 59, 60, 61, MIN, MAX}) {
            is("kept(" + k + ", 0)", x.kept(k, 0), NONE);
        }
        for (int what : new int[] {-1, 4, MIN, MAX}) {
            is("kept(0, " + what + ")", x.kept(0, what), NONE);
        }
        promise = "II, the last 60 are told: all that six JOBS can have";
        ToolSaints full = of("kind k rests 29 of 30;" + many(8, "tool t# is k worn 0;") + many(6, "hand h#;")
                + many(6, "job j# by 0 does k 1 k 1 k 1 k 1;") + "wears 0;");
        is("24 STEPS", full.days(10), 24);
        is("24 are told", full.has(10), 24);
        for (int k = 0; k < 24; k++) {
            int[] due = {k / 6, k % 6, k % 6, k % 6};
            for (int what = 0; what < 4; what++) {
                is("kept(" + k + ", " + what + ")", full.kept(k, what), due[what]);
            }
        }
        is("on() is of nothing KEPT", changed(full, 1, 3).has(10), 0);
        is("nothing is told", full.kept(0, 0), NONE);
        is("up to DAY 998", keptOn(998), 998);
    }

    private static int keptOn(int day) {
        ToolSaints x = onDay(ONE + "job j by 0 does k 1;", day);
        x.days(1);
        return x.kept(0, 0);
    }

    private static void images() {
        promise = "31 how many bytes; III, two bytes, the higher first";
        is("nothing", new ToolSaints().image(), 5);
        is("JOBS without TOOLS", of(IDLE).image(), 8);
        is("HANDS without TOOLS", of("hand h;hand g;").image(), 5);
        is("TOOLS without HANDS", of("kind k rests 0 of 2;tool t is k worn 0;").image(), 8);
        String most = "kind k rests 0 of 2;" + many(8, "tool t# is k worn 99;") + many(6, "hand h#;") + many(6, "job j# by 999 does k 1;");
        is("the longest", of(most).image(), 4 + 24 + 48 + 18 + 1);
        ToolSaints x = changed(onDay(IDLE.replace("by 0", "by 999"), 999), 2, 39, 3, 15);
        int[] due = Tape.summed(new int[] {3, 231, 39, 15, 0, 3, 231, 0});
        int[] got = Tape.image(x);
        for (int k = 0; k < due.length; k++) {
            is("octet " + k, got[k], due[k]);
        }
        int[][] days = {{255, 0, 255}, {256, 1, 0}, {257, 1, 1}, {0, 0, 0}};
        for (int[] day : days) {
            int[] image = Tape.image(onDay(IDLE, day[0]));
            is("DAY " + day[0], image[0] * 256 + image[1], day[1] * 256 + day[2]);
        }
        promise = "III, last a byte: all ahead from 157 on, c = (5 c + it) mod 251";
        int c = 157;
        for (int i = 0; i < 4; i++) {
            c = 5 * c % 251;
        }
        is("of four bytes 0", Tape.image(new ToolSaints())[4], c);
    }

    private static void octets() {
        promise = "32 byte k of the latest image(); NONE when there is none such";
        ToolSaints x = of(YARD);
        is("ahead of any", x.octet(0), NONE);
        int length = x.image();
        is("the last", x.octet(length - 1) >= 0, true);
        for (int k : new int[] {-1, length, length + 1, 95, MIN, MAX}) {
            is("octet(" + k + ")", x.octet(k), NONE);
        }
        x.days(7);
        is("of the latest, not of now", x.octet(1), 0);
        x.undo();
        Tape.year(x, "");
        is("of the latest, of another YEAR too", x.octet(length - 1) >= 0, true);
        x.image();
        is("a shorter one", x.octet(4) >= 0, true);
        is("nothing behind it", x.octet(5), NONE);
    }

    private static void imageBounds() {
        promise = "33 DAY 999, fines 9999, worn 100, knows 9 at most; no more STEPS than the JOB has; terms 999 at most";
        ToolSaints x = of(YARD);
        int[] image = Tape.image(x);
        // DAY 0, fines 2, TOOLS 4 .. 12, HANDS 13 .. 18, JOBS 19 .. 24.
        int[][] wrongs = {{0, 3, 1, 232}, {0, 4, 1, 0}, {0, 255, 1, 255}, {2, 39, 3, 16}, {2, 40, 3, 0}, {2, 255, 3, 255}, {4, 101},
            {4, 255}, {7, 101}, {10, 101}, {5, 2}, {5, 255}, {11, 2}, {6, 2}, {6, 255}, {12, 2}, {13, 10}, {13, 255}, {18, 10},
            {19, 3}, {19, 255}, {22, 3}, {20, 3, 21, 232}, {20, 4, 21, 0}, {23, 3, 24, 232}, {23, 255, 24, 255}};
        for (int[] w : wrongs) {
            refused("octet " + w[0] + " at " + w[1], 5, CallBoundaryTest::wellUsed, y -> !Tape.on(y, spoiled(image, w)));
        }
        int[][] edges = {{0, 3, 1, 231}, {0, 0, 1, 0}, {2, 39, 3, 15}, {2, 0, 3, 255}, {4, 100}, {10, 100}, {5, 1}, {11, 1}, {6, 1},
            {12, 1}, {13, 9}, {18, 9}, {19, 2}, {22, 2}, {19, 0}, {20, 3, 21, 231}, {23, 3, 24, 231}, {20, 0, 21, 0}};
        for (int[] edge : edges) {
            takesOn(spoiled(image, edge), "octet " + edge[0] + " at " + edge[1]);
        }
        promise = "33 the seed is none of it";
        x.seed(44);
        Tape.on(x, image);
        is("the seed", x.has(12), 44);
        promise = "33 what it tells is worked with";
        changed(x, 0, 0, 1, 2, 19, 2, 22, 1);
        is("bed is done", x.done(0), 0);
        is("door has one STEP left", x.done(1), 1);
        x.seed(1);
        Tape.on(x, image);
        is("as at first", x.days(3), of(YARD).days(3));
    }

    private static void takesOn(int[] image, String what) {
        ToolSaints x = wellUsed();
        is(what, Tape.on(x, image), true);
        is("no ACT can be undone", x.has(11), 0);
        is("nothing is KEPT", x.has(10), 0);
        is("none was refused", x.status(5), 0);
        int[] got = Tape.image(x);
        for (int k = 0; k < image.length; k++) {
            is(what + ": as told, octet " + k, got[k], image[k]);
        }
        is("no ACT can be undone", x.undo(), false);
    }

    private static void imagesInARow() {
        promise = "33 all is as it tells: nothing of an image ahead of it";
        ToolSaints x = of(YARD);
        int[] image = Tape.image(x);
        is("all BROKEN and HELD", Tape.on(x, spoiled(image, 5, 1, 6, 1, 8, 1, 9, 1, 11, 1, 12, 1)), true);
        is("BROKEN, HELD", x.has(6) * 10 + x.has(7), 33);
        is("then none", Tape.on(x, image), true);
        is("BROKEN, HELD", x.has(6) * 10 + x.has(7), 0);
        is("a refused one", Tape.on(x, spoiled(image, 5, 1, 6, 1, 7, 101)), false);
        is("BROKEN, HELD, still", x.has(6) * 10 + x.has(7), 0);
        is("as at first", all(x), all(of(YARD)));
    }

    private static void fullImage() {
        promise = "33 all that the most TOOLS, HANDS and JOBS can tell, undone and worked with";
        ToolSaints x = of("kind k rests 0 of 30;" + many(8, "tool t# is k worn 0;") + many(6, "hand h#;")
                + many(6, "job j# by 0 does k 1;") + "may knows>6;");
        int[] image = Tape.image(x);
        is("bytes", image.length, 4 + 24 + 48 + 18 + 1);
        for (int at = 28; at < 76; at++) {
            image[at] = at % 7;
        }
        // The last HAND and the last TOOL alone may work.
        image[75] = 9;
        is("on()", Tape.on(x, Tape.summed(image)), true);
        isKnown(x, image);
        is("swap(2, 4)", x.swap(2, 4), true);
        is("undo", x.undo(), true);
        isKnown(x, image);
        is("AHEAD", x.later(1, 0), 1);
        is("days", x.days(1), 1);
        is("the last TOOL, the last HAND", x.kept(0, 2) * 10 + x.kept(0, 3), 75);
    }

    private static void isKnown(ToolSaints x, int[] image) {
        for (int at = 28; at < 76; at++) {
            is("octet " + at + ", as it is known", x.knows((at - 28) / 8, (at - 28) % 8), image[at]);
        }
    }

    private static void imageLengths() {
        promise = "33 false, refused (5), if it is none such: its length, its last byte, another YEAR";
        ToolSaints x = of(YARD);
        int[] image = Tape.image(x);
        int length = image.length;
        String before = all(x);
        is("none", x.on(), false);
        is("one byte", Tape.on(x, 0), false);
        is("too short", Tape.on(x, Tape.summed(java.util.Arrays.copyOf(image, length - 1))), false);
        is("too long", Tape.on(x, Tape.summed(java.util.Arrays.copyOf(image, length + 1))), false);
        is("a full tape", Tape.on(x, new int[1600]), false);
        for (int off : new int[] {1, 250, 251 - image[length - 1]}) {
            int[] bad = image.clone();
            bad[length - 1] = (image[length - 1] + off) % 256;
            is("the last byte off by " + off, Tape.on(x, bad), bad[length - 1] == image[length - 1]);
        }
        for (int k = 0; k < length - 1; k++) {
            int[] bad = image.clone();
            bad[k] ^= 1;
            is("octet " + k + " without its last byte", Tape.on(x, bad), false);
        }
        is("all stays", all(x), before);
        is("refused", x.status(5), 5 + 3 + length - 1);
        is("twenty bytes as fed are too many", feedOnly(new ToolSaints()), false);
        is("of another YEAR", Tape.on(of(ONE), image), false);
        is("the same YEAR of another object", Tape.on(of(YARD), image), true);
        is("no YEAR", Tape.on(new ToolSaints(), Tape.summed(new int[5])), true);
    }

    private static boolean feedOnly(ToolSaints x) {
        x.feed(0, 0, 0, 0, 0);
        return x.on();
    }

    private static void statuses() {
        promise = "34 NONE for others";
        ToolSaints x = new ToolSaints();
        for (int what = 0; what < 6; what++) {
            is("none so far", x.status(what), 0);
        }
        for (int what : new int[] {-1, 6, MIN, MAX}) {
            is("status(" + what + ")", x.status(what), NONE);
        }
        promise = "34 what answers NONE without being refused is not counted";
        x.has(99);
        x.fault(9);
        x.letter(9, 9, 9);
        x.kind(9, 9);
        x.tool(9, 9);
        x.knows(9, 9);
        x.job(9, 9);
        x.later(101, 0);
        x.done(9);
        x.late(0);
        x.order(0, 0);
        x.moved(0, 0);
        x.makeshift(9, 9, 9);
        x.hangs(9, 9);
        x.guard(9, 9);
        x.loan(9, 9);
        x.when(9);
        x.kept(9, 9);
        x.octet(9);
        for (int what = 0; what < 6; what++) {
            is("none so far", x.status(what), 0);
        }
        promise = "34 each of them alone";
        int[] due = {0, 0, 1, 2, 2, 3, 3, 3, 4, 5, 5, 5};
        for (int call = 0; call < due.length; call++) {
            ToolSaints y = new ToolSaints();
            for (int i = 0; call == 0 && i < 80; i++) {
                y.feed(0, 0, 0, 0, 0);
            }
            refuse(y, call);
            for (int what = 0; what < 6; what++) {
                is("status(" + what + ") of call " + call, y.status(what), what == due[call] ? 1 : 0);
            }
        }
        promise = "34 they stay over a new YEAR";
        x.undo();
        x.year();
        is("status(4)", x.status(4), 1);
    }

    private static void refuse(ToolSaints x, int call) {
        switch (call) {
            case 0 -> x.feed(0, 0, 0, 0, 0);
            case 1 -> x.end(1);
            case 2 -> {
                x.feed(0, 0, 0, 0, 0);
                x.year();
            }
            case 3 -> x.days(0);
            case 4 -> x.chance(0);
            case 5 -> x.hold(0, 1);
            case 6 -> x.swap(0, 1);
            case 7 -> x.due(0, 1);
            case 8 -> x.undo();
            case 9 -> x.seed(-1);
            case 10 -> x.shavings();
            default -> x.on();
        }
    }

    private static void aheadIsWithoutFrost() {
        promise = "III, AHEAD are DAYS without DRAWS: no frost in any question";
        String never = ONE.replace("may all", "may frost=1") + "frost 100;job j by 0 does k 1;";
        ToolSaints x = of(never);
        is("later", x.later(9, 0), 0);
        is("done", x.done(0), NONE);
        is("late", x.late(3), 3);
        is("order", x.order(3, NONE), 3);
        is("moved", x.moved(3, 0), NONE);
        is("hangs", x.hangs(0, 9), 0);
        is("guard", x.guard(0, 9), 0);
        is("shavings", Tape.shavings(x, 0, 1), 0);
        is("days", x.days(9), 0);
        is("but by the seed", x.chance(1) + x.job(0, 2), 2);
        ToolSaints y = of(never.replace("frost=1", "frost=0"));
        is("later", y.later(9, 0), 1);
        is("done", y.done(0), 1);
        is("late", y.late(3), 0);
        is("order", y.order(3, NONE), 0);
        is("hangs", y.hangs(0, 9), 1);
        is("guard", y.guard(0, 9), 1);
        is("shavings", Tape.shavings(y, 0, 1), 1);
        is("no DRAW", y.has(12), 1);
        y.chance(3);
        is("later, behind DAYS of frost", y.later(9, 0), 1);
    }

    private static void aheadChangesNothing() {
        promise = "III, what is asked AHEAD changes nothing";
        ToolSaints x = of(YARD);
        x.days(1);
        x.hold(0, 1);
        String before = all(x);
        x.later(100, 0);
        x.done(1);
        x.late(100);
        x.order(30, 0);
        x.moved(60, 0);
        x.hangs(1, 60);
        x.guard(1, 30);
        x.loan(0, 0);
        x.makeshift(0, 1, NONE);
        x.image();
        is("all stays", all(x), before);
        Tape.shavings(x, 0, 1);
        is("shavings change when() alone", x.later(9, 1), onceMore().later(9, 1));
    }

    private static ToolSaints onceMore() {
        ToolSaints x = of(YARD);
        x.days(1);
        x.hold(0, 1);
        return x;
    }
}
