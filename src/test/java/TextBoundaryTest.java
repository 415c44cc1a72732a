/** The boundary cases of a YEAR's text: block I of the document's terms, with promises 4 and 5. */
public final class TextBoundaryTest extends Checks {
    private static final String KIND = "kind k rests 0 of 30;";
    private static final String TWO = "kind k rests 0 of 30;kind q rests 0 of 30;";
    private static final String TOOL = KIND + "tool t is k worn 0;";
    private static final String HAND = TOOL + "hand h;";
    private static final String STEP = KIND + "job j by 0 does k 1";
    private static final String[] OWN = ("kind rests of tool is worn hand knows job by does serves for at may wears breaks "
            + "smith fine frost rest hours day late used if or and not all min max").split(" ");

    private TextBoundaryTest() {
    }

    public static void main(String[] args) {
        restDaysAndRounds();
        wornAndKnown();
        termsAndHours();
        pricesAndSettings();
        lastOnesAndDefaults();
        countsOfSorts();
        countsOfRules();
        countOfStatements();
        countOfSteps();
        namesByLength();
        namesByByte();
        namesUnlike();
        namesToldAhead();
        ownWords();
        numbersByDigits();
        blanks();
        missingBlanks();
        tooLongAnywhere();
        endsTooSoon();
        firstAlongTheText();
        openAtOnce();
        openUntilItEnds();
        deepest();
        factsOfRules();
        floors();
        byZero();
        largestResults();
        comparisons();
        strengths();
        holdsOrNot();
        finish("the boundaries of texts hold");
    }

    private static void fine(String text) {
        fault(text, 0, NONE);
    }

    /** The FAULT is in what stands behind the sound text, at a place counted from there. */
    private static void fault(String sound, String more, int code, int place) {
        fault(sound + more, code, sound.length() + place);
    }

    private static void restDaysAndRounds() {
        promise = "I, kind: a REST DAY, 0 and on, below the second number; that, its ROUND, 2 .. 30";
        fine("kind k rests 0 of 2;");
        fine("kind k rests 1 of 2;");
        fine("kind k rests 0 of 30;");
        fine("kind k rests 29 of 30;");
        fault("kind k rests 2 of 2;", 4, 18);
        fault("kind k rests 3 of 2;", 4, 18);
        fault("kind k rests 30 of 30;", 4, 19);
        fault("kind k rests 0 of 0;", 4, 18);
        fault("kind k rests 0 of 1;", 4, 18);
        fault("kind k rests 1 of 1;", 4, 18);
        fault("kind k rests 0 of 31;", 4, 18);
        fault("kind k rests 30 of 31;", 4, 19);
        fault("kind k rests 9999 of 9999;", 4, 21);
        promise = "I, a REST DAY is never the fault, its ROUND is";
        fault("kind k rests 9999", 1, 17);
        fault("kind k rests 9999;", 1, 17);
        fault("kind k rests 9999 of", 1, 20);
        promise = "I, smith: a DAY, 0 and on, below the second number; that, 2 .. 30";
        fine("smith 0 of 2;");
        fine("smith 1 of 2;");
        fine("smith 0 of 30;");
        fine("smith 29 of 30;");
        fault("smith 2 of 2;", 4, 11);
        fault("smith 30 of 30;", 4, 12);
        fault("smith 0 of 0;", 4, 11);
        fault("smith 0 of 1;", 4, 11);
        fault("smith 0 of 31;", 4, 11);
        fault("smith 30 of 31;", 4, 12);
        fault("smith 9999 of", 1, 13);
    }

    private static void wornAndKnown() {
        promise = "I, tool: worn 0 .. 99";
        is("worn 0", of(KIND + "tool t is k worn 0;").tool(0, 1), 0);
        is("worn 99", of(KIND + "tool t is k worn 99;").tool(0, 1), 99);
        fault(KIND, "tool t is k worn 100;", 4, 17);
        fault(KIND, "tool t is k worn 9999;", 4, 17);
        promise = "I, knows: 0 .. 9";
        is("knows 0", of(HAND + "knows h t 0;").knows(0, 0), 0);
        is("knows 9", of(HAND + "knows h t 9;").knows(0, 0), 9);
        fault(HAND, "knows h t 10;", 4, 10);
    }

    private static void termsAndHours() {
        promise = "I, job: its term, a DAY 0 .. 999";
        is("by 0", of(KIND + "job j by 0 does k 1;").job(0, 0), 0);
        is("by 999", of(KIND + "job j by 999 does k 1;").job(0, 0), 999);
        fault(KIND, "job j by 1000 does k 1;", 4, 9);
        fault(KIND, "job j by 9999 does k 1;", 4, 9);
        promise = "I, job: HOURS 1 .. 9";
        is("1", of(KIND + "job j by 0 does k 1;").job(0, 20), 1);
        is("9", of(KIND + "job j by 0 does k 9;").job(0, 20), 9);
        fault(KIND, "job j by 0 does k 0;", 4, 18);
        fault(KIND, "job j by 0 does k 10;", 4, 18);
        fault(STEP, " k 0;", 4, 3);
        fault(STEP, " k 1 k 1 k 10;", 4, 11);
    }

    private static void pricesAndSettings() {
        promise = "I, serves: 1 .. 99";
        is("at 1", of(TWO + "serves k for q at 1;").makeshift(0, 1, NONE), 1);
        is("at 99", of(TWO + "serves k for q at 99;").makeshift(0, 1, NONE), 99);
        fault(TWO, "serves k for q at 0;", 4, 18);
        fault(TWO, "serves k for q at 100;", 4, 18);
        promise = "I, breaks 1 .. 100";
        fine("breaks 1;");
        fine("breaks 100;");
        fault("breaks 0;", 4, 7);
        fault("breaks 101;", 4, 7);
        promise = "I, fine, frost: 0 .. 100 each";
        fine("fine 0;");
        fine("fine 100;");
        fault("fine 101;", 4, 5);
        fine("frost 0;");
        fine("frost 100;");
        fault("frost 101;", 4, 6);
    }

    private static int finesOfDays(String text, int days) {
        return of(text).later(days, NONE);
    }

    private static void lastOnesAndDefaults() {
        promise = "I, the last one of these two counts; 0 without";
        is("knows", of(HAND + "knows h t 9;knows h t 2;").knows(0, 0), 2);
        is("knows, 0 at last", of(HAND + "knows h t 9;knows h t 0;").knows(0, 0), 0);
        is("knows, without", of(HAND).knows(0, 0), 0);
        is("serves", of(TWO + "serves k for q at 1;serves k for q at 7;").makeshift(0, 1, NONE), 7);
        is("serves, the other way round is another one",
                of(TWO + "serves k for q at 1;serves q for k at 7;").makeshift(0, 1, NONE), 1);
        promise = "I, the last one of each counts (100; 0 of 9; 5, 0 without)";
        String late = STEP + ";";
        is("fine 5 without: DAY 1 alone is LATE", finesOfDays(late, 2), 5);
        is("the last fine", finesOfDays(late + "fine 1;fine 8;", 2), 8);
        is("the last fine, 0", finesOfDays(late + "fine 8;fine 0;", 2), 0);
        String works = "kind k rests 29 of 30;tool t is k worn 98;hand h;job j by 0 does k %d k 1;";
        is("worn 99: not BROKEN without breaks", of(String.format(works, 1)).done(0), 2);
        is("worn 100: BROKEN without breaks, mended on DAY 9", of(String.format(works, 2)).done(0), 10);
        is("the last breaks", of(String.format(works, 1) + "breaks 100;breaks 99;").done(0), 10);
        is("the last breaks, as high as can be", of(String.format(works, 1) + "breaks 99;breaks 100;").done(0), 2);
        is("the last smith", of(String.format(works, 2) + "smith 3 of 30;smith 5 of 30;").done(0), 6);
        is("no frost without", of(works.replace("%d", "1")).chance(100), 0);
        is("the last frost", of("frost 0;frost 100;").chance(100), 100);
        is("the last frost, 0", of("frost 100;frost 0;").chance(100), 0);
        promise = "I, nothing stays of the YEAR ahead of it";
        ToolSaints x = of(HAND + "kind q rests 0 of 30;serves k for q at 3;knows h t 4;job j by 0 does k 1;"
                + "may not all;wears 50;fine 9;breaks 1;frost 100;smith 1 of 2;");
        is("a new YEAR", Tape.year(x, HAND.replace("rests 0", "rests 29") + "kind q rests 0 of 30;job j by 0 does k 2 k 1;"), 5);
        is("serves", x.makeshift(0, 1, NONE), NONE);
        is("knows", x.knows(0, 0), 0);
        is("may", x.later(1, 0), 1);
        is("frost", x.chance(1), 0);
        is("wears, breaks", x.tool(0, 1), 2);
        is("breaks", x.tool(0, 2), 0);
        is("fine: LATE on no DAY", x.later(1, NONE), 0);
        Tape.year(x, late);
        is("fine 5 again", x.later(2, NONE), 5);
        Tape.year(x, String.format(works, 2));
        is("smith 0 of 9 again", x.done(0), 10);
    }

    private static void countsOfSorts() {
        promise = "I, 6 KINDS, 8 TOOLS, 6 HANDS, 6 JOBS; one too many is a FAULT 6 at its first byte";
        String kinds = many(6, "kind # rests 0 of 2;");
        String tools = KIND + many(8, "tool # is k worn 0;");
        String hands = many(6, "hand #;");
        String jobs = KIND + many(6, "job # by 0 does k 1;");
        is("6 KINDS", of(kinds).has(0), 6);
        is("8 TOOLS", of(tools).has(1), 8);
        is("6 HANDS", of(hands).has(2), 6);
        is("6 JOBS", of(jobs).has(3), 6);
        fault(kinds, "kind x rests 0 of 2;", 6, 0);
        fault(tools, " tool x is k worn 0;", 6, 1);
        fault(hands, "\nhand x;", 6, 1);
        fault(jobs, "job x by 0 does k 1;", 6, 0);
        fault(kinds, "kind", 6, 0);
        fault(tools, "tool ;", 6, 0);
        fault(hands, "hand na;", 6, 0);
        fault(jobs, "job 12345", 6, 0);
        fault(kinds, "kinds", 1, 0);
        fault(kinds, "kindkind", 1, 6);
        is("all of them at once", of(kinds + many(8, "tool # is na worn 0;").replace(" n", " t").replace("is ta", "is na")
                + hands.replace(" n", " h") + many(6, "job # by 0 does na 1;").replace("job n", "job j")).has(3), 6);
    }

    private static void countsOfRules() {
        promise = "I, one may, one wears; a second one is a FAULT 6 at its first byte";
        fine("may all;wears 1;");
        fine("wears 1;may all;");
        fault("may all;", "may all;", 6, 0);
        fault("may all;fine 1;", " may", 6, 1);
        fault("wears 1;", "wears 1;", 6, 0);
        fault("wears 1;may all;", "wears", 6, 0);
        promise = "I, of the others there may be more";
        fine("fine 1;fine 1;frost 1;frost 1;breaks 1;breaks 1;smith 0 of 2;smith 0 of 2;");
    }

    private static void countOfStatements() {
        promise = "I, a YEAR has 80 STATEMENTS at most; the 81st, whatever it is, is a FAULT 6 at its first byte";
        is("none", Tape.year(new ToolSaints(), ""), 0);
        is("one", Tape.year(new ToolSaints(), "fine 1;"), 1);
        String full = "fine 1;".repeat(80);
        is("80", Tape.year(new ToolSaints(), full), 80);
        is("80 and blanks", Tape.year(new ToolSaints(), full + " \n "), 80);
        String[] more = {"fine 1;", "f", "may all;", "nonsense", "kind", "12345", "1", ";", "(", "\0", "\u00ff", "A"};
        for (String one : more) {
            fault(full, one, 6, 0);
            fault(full, " \n" + one, 6, 2);
        }
        String last = "fine 1;".repeat(79);
        fault(last, "fine 101;", 4, 5);
        fault(last, ";", 1, 0);
        fault(last, "fine 1 fine 1;", 1, 7);
        fault(last, "fine 1", 1, 6);
    }

    private static void countOfSteps() {
        promise = "I, job: 1 to 4 STEPS; a letter where a 5th would begin is a FAULT 6 at it";
        is("one", of(STEP + ";").job(0, 1), 1);
        is("four", of(STEP + " k 2 k 3 k 4;").job(0, 1), 4);
        fault(KIND, "job j by 0 does;", 1, 15);
        fault(KIND, "job j by 0 does 1;", 1, 16);
        String four = STEP + " k 2 k 3 k 4";
        String[] letters = {"k 1;", "k", "x", "z 1;", "by", "does k 1", "abcdefgh", "job", "a\u00ff"};
        for (String one : letters) {
            fault(four, " " + one, 6, 1);
            fault(four, "\n\n" + one, 6, 2);
            fault(four, one, 6, 0);
        }
        String[] others = {"5", "12345", "A", "(", "\0", ",", ""};
        fault(four, " " + others[0], 1, 1);
        fault(four, " " + others[1], 1, 5);
        for (int i = 2; i < others.length; i++) {
            fault(four, " " + others[i], 1, 1);
            fault(four, others[i], 1, 0);
        }
        promise = "I, job: where a 2nd, 3rd, 4th STEP begins";
        String steps = STEP;
        for (int count = 1; count < 4; count++) {
            fault(steps, " k;", 1, 2);
            fault(steps, " k", 1, 2);
            fault(steps, " x 1;", 3, 1);
            fault(steps, " j 1;", 3, 1);
            fault(steps, " by 1;", 1, 1);
            fault(steps, " abcdefg", 1, 7);
            fault(steps, " 1;", 1, 1);
            steps += " k 1";
        }
    }

    private static void namesByLength() {
        promise = "I, NAMES: 1 to 6 letters; a 7th letter at itself";
        ToolSaints x = of("hand a;hand abcdef;hand zzzzzz;");
        is("one letter", x.letter(2, 0, 0), 1);
        is("behind it", x.letter(2, 0, 1), 0);
        is("six letters", x.letter(2, 1, 5), 6);
        is("six letters", x.letter(2, 2, 5), 26);
        fault("hand abcdefg;", 1, 11);
        fault("hand abcdefghijklmnopqrstuvwxyz;", 1, 11);
        fault("hand abcdefg", 1, 11);
        fault("hand ;", 1, 5);
        fault("hand abcdef", 1, 11);
        fault("hand abcdef1;", 1, 11);
        fault("hand abcdef g;", 1, 12);
    }

    private static void namesByByte() {
        promise = "I, NAMES: letters a .. z alone, every other byte is a FAULT 1";
        for (int c = 0; c < 256; c++) {
            char sign = (char) c;
            boolean blank = c == 10 || c == 32;
            boolean letter = c >= 'a' && c <= 'z';
            if (!blank && !letter) {
                fault("hand " + sign + ";", 1, 5);
            }
            if (!blank && !letter && c != ';') {
                fault("hand b" + sign + ";", 1, 6);
                fault("fine 1;" + sign, 1, 7);
            }
            if (letter) {
                is("hand " + sign, of("hand " + sign + ";").letter(2, 0, 0), c - 'a' + 1);
            }
        }
    }

    private static void namesUnlike() {
        promise = "I, NAMES are unlike ones, of all sorts; FAULT 2 at its first byte";
        String all = "kind k rests 0 of 30;tool t is k worn 0;hand h;job j by 0 does k 1;";
        for (String taken : new String[] {"k", "t", "h", "j"}) {
            fault(all, "kind " + taken + " rests 0 of 2;", 2, 5);
            fault(all, "tool  " + taken + " is k worn 0;", 2, 6);
            fault(all, "hand\n" + taken + ";", 2, 5);
            fault(all, "job " + taken + " by 0 does k 1;", 2, 4);
            fault(all, "hand " + taken, 2, 5);
            fine(all + "hand " + taken + taken + ";");
        }
        fault("hand abcdef;", "hand abcdef;", 2, 5);
        fine("hand abcdef;hand abcdeg;hand bbcdef;hand abcde;hand bcdef;");
        promise = "I, a NAME of a YEAR that went is free again";
        ToolSaints x = of(all);
        is("the same YEAR anew", Tape.year(x, all), 4);
        is("a FAULT behind the NAME", Tape.year(x, "hand new;fine"), NONE);
        is("that NAME is free", Tape.year(x, "hand new;"), 1);
    }

    private static void namesToldAhead() {
        promise = "I, a NAME that is none of what is asked; FAULT 3 at its first byte";
        fault("tool t is k worn 0;kind k rests 0 of 2;", 3, 10);
        fault("knows h", 3, 6);
        fault(TOOL, "knows t", 3, 6);
        fault(HAND, "knows h h", 3, 8);
        fault(HAND, "knows h k 1;", 3, 8);
        fault(HAND, "knows t h 1;", 3, 6);
        fault(HAND, "tool u is h", 3, 10);
        fault(HAND, "tool u is t", 3, 10);
        fault(HAND, "tool u is u", 3, 10);
        fault(HAND, "job j by 0 does j", 3, 16);
        fault(HAND, "job j by 0 does h 1;", 3, 16);
        fault(HAND, "job j by 0 does t 1;", 3, 16);
        fault(HAND, "serves h for k", 3, 7);
        fault(HAND, "serves t for k", 3, 7);
        fault(HAND, "serves k for t", 3, 13);
        fault("serves k", 3, 7);
        promise = "I, serves: two unlike KINDS, the same one is a FAULT 3 at its second place";
        fault(TWO, "serves k for k at 1;", 3, 13);
        fault(TWO, "serves q for q", 3, 13);
        fault(TWO, "serves k for x", 3, 13);
        fine(TWO + "serves k for q at 1;serves q for k at 1;");
        promise = "I, a NAME's first letters are no NAME";
        fault("kind abcdef rests 0 of 2;", "tool t is abcde worn 0;", 3, 10);
    }

    private static void ownWords() {
        promise = "I, OWN WORDS, which no NAME is; FAULT 1 at its first byte";
        is("there are 32", OWN.length, 32);
        for (String own : OWN) {
            fault("hand " + own + ";", 1, 5);
            fault("kind " + own + " rests 0 of 2;", 1, 5);
            fault(KIND, "tool " + own, 1, 5);
            fault(KIND, "job " + own, 1, 4);
            fault(KIND, "tool t is " + own, 1, 10);
            fault(KIND, "job j by 0 does " + own, 1, 16);
            fault(HAND, "knows " + own, 1, 6);
            fault(HAND, "knows h " + own, 1, 8);
            fault(TWO, "serves " + own, 1, 7);
            fault(TWO, "serves k for " + own, 1, 13);
            String near = own.length() < 6 ? own + "x" : "x" + own.substring(1);
            is("hand " + near, of("hand " + near + ";").has(2), 1);
        }
    }

    private static void numbersByDigits() {
        promise = "I, NUMBERS: 1 to 4 digits; a 5th digit at itself";
        fine("fine 1;");
        fine("fine 01;");
        fine("fine 0100;");
        fine("fine 0000;");
        fault("fine 00000;", 1, 9);
        fault("fine 00001", 1, 9);
        fault("fine 123456789;", 1, 9);
        fault("fine 9999;", 4, 5);
        fault("fine 99999;", 1, 9);
        fine("wears 9999;");
        fault("wears 10000;", 1, 10);
        fault("kind k rests 00000", 1, 17);
        fault("kind k rests 0 of 00002;", 1, 22);
        fault(KIND, "tool t is k worn 10000", 1, 21);
        fault("fine ;", 1, 5);
        fault("fine 1 0;", 1, 7);
        fault("fine -1;", 1, 5);
        fault("fine +1;", 1, 5);
        fault("fine 1.;", 1, 6);
    }

    private static void blanks() {
        promise = "I, blanks (10, 32) are where one likes";
        fine("\n \nkind \n k\nrests  0\n\nof\n2 ;\n");
        fine("may\n[ rest = 0 or not [ all ] ] and used * 2 < 3 ;wears if ( all , ( 1 ) , min ( 1 , 2 ) ) % 3;");
        fine("may[rest=0or[all]]and not[all];".replace("0or", "0 or"));
        fine("may(1)<2and all;".replace("2and", "2 and"));
        promise = "I, no other byte is a blank";
        for (int c : new int[] {0, 9, 11, 12, 13, 31, 160}) {
            fault("fine" + (char) c + "1;", 1, 4);
            fault((char) c + "fine 1;", 1, 0);
            fault("fine 1;" + (char) c, 1, 7);
        }
        promise = "I, a blank within a word or a number ends it";
        fault("ki nd k", 1, 0);
        fault("hand ab cd;", 1, 8);
    }

    private static void missingBlanks() {
        promise = "I, words and numbers side by side need a blank; FAULT 1 at the second one";
        fault("fine1;", 1, 4);
        fault("fine101;", 1, 4);
        fault("kind k rests0 of 2;", 1, 12);
        fault("kind k rests 0of 2;", 1, 14);
        fault("kind k rests 0 of2;", 1, 17);
        fault("smith 0of 2;", 1, 7);
        fault(HAND, "knows h t1;", 1, 9);
        fault(HAND, "hand g1;", 1, 6);
        fault(KIND, "job j by0 does k 1;", 1, 8);
        fault(KIND, "job j by 0does k 1;", 1, 10);
        fault(KIND, "job j by 0 does k1;", 1, 17);
        fault(STEP, "k 1;", 1, 0);
        fault(STEP, "x 1;", 1, 0);
        fault(TWO, "serves k for q at1;", 1, 17);
        fault("may1=1;", 1, 3);
        fault("wears1;", 1, 5);
        fault("may 1=1or all;", 1, 7);
        fault("may 1=1and all;", 1, 7);
        fault("may all or1=1;", 1, 10);
        fault("may not1=1;", 1, 7);
        fault("wears worn1;", 1, 10);
        fault("wears 1worn;", 1, 7);
        promise = "I, signs need none";
        fine("wears(1);");
        fine("wears 1+worn*2-hours/3;");
        fine("fine 1;fine 2;");
        fine("may[all];");
    }

    private static void tooLongAnywhere() {
        promise = "I, a 7th letter, a 5th digit at itself, whatever may stand there";
        String[] befores = {"", "kind ", "kind k ", "kind k rests ", "kind k rests 0 ", "kind k rests 0 of ",
            "kind k rests 0 of 2 ", KIND, KIND + "tool ", KIND + "tool t is ", KIND + "tool t is k ", HAND + "knows ",
            HAND + "knows h ", HAND + "knows h t ", KIND + "job j by ", KIND + "job j by 0 does ", STEP + " ",
            TWO + "serves ", TWO + "serves k for ", "may ", "may not ", "may all ", "may 1 ", "may 1=", "wears ",
            "wears 1+", "wears 1 ", "wears min ", "wears min(", "wears if(all,", "breaks ", "smith 0 of ", "fine 1 "};
        for (String before : befores) {
            fault(before, "abcdefg", 1, 6);
            fault(before, "kindkindkind;", 1, 6);
            fault(before, "12345", 1, 4);
            fault(before, "00000000;", 1, 4);
        }
        promise = "I, a number is no sign, though it tells a sign's byte";
        fault("fine 1 0059;", 1, 7);
        fault("fine 1 00591", 1, 11);
        fault("hand h59", 1, 6);
        fault("wears 1 00431;", 1, 12);
        fault("wears worn43 1;", 1, 10);
        fault("wears 00401);", 1, 10);
    }

    private static void endsTooSoon() {
        promise = "I, FAULT 1 at the text's length, if it ends too soon";
        String[] whole = {"kind k rests 0 of 30", "tool t is k worn 0", "hand h", "knows h t 9", "kind q rests 0 of 9",
            "job j by 0 does k 1 k 2 k 3 k 4", "serves k for q at 9", "breaks 9", "smith 0 of 2", "fine 9", "frost 9",
            "may not [ all ] and ( 1 ) < 2 or max ( 1 , 2 ) = 3", "wears if ( all , 1 , min ( 2 , 3 ) ) * 4 - 5"};
        StringBuilder before = new StringBuilder();
        for (String statement : whole) {
            for (int end = 1; end <= statement.length(); end++) {
                if (end == statement.length() || statement.charAt(end) == ' ') {
                    fault(before + statement.substring(0, end), 1, before.length() + end);
                    fault(before + statement.substring(0, end) + " \n", 1, before.length() + end + 2);
                }
            }
            before.append(statement).append(';');
            fine(before.toString());
        }
        promise = "I, words are whole: one that is cut short is a FAULT 1 at its first byte";
        fault("kin", 1, 0);
        fault("kind k res", 1, 7);
        fault("may not al", 1, 8);
        fault("wears mi", 1, 6);
        fault("kind k rests 0 o", 1, 15);
        promise = "2, 4: a full tape";
        fault("fine 1;" + " ".repeat(1593), 0, NONE);
        fault(" ".repeat(1594) + "fine 1", 1, 1600);
        fault(" ".repeat(1593) + "fine 1;", 0, NONE);
        fault(" ".repeat(1599) + "!", 1, 1599);
        fault(" ".repeat(1596) + "fine", 1, 1600);
        fault("wears 1" + "+1".repeat(796) + ";", 0, NONE);
        ToolSaints x = new ToolSaints();
        for (int turn = 1; turn < 6; turn++) {
            Tape.year(x, HAND + "job j by 0 does k 1;may all;wears 1" + "-0".repeat(700) + "+1".repeat(turn) + ";");
            x.days(1);
            is("long sums, YEAR by YEAR", x.tool(0, 1), turn + 1);
        }
        is("a sum as long as the tape", sum("1" + "-0".repeat(700) + "+1".repeat(30)), 31);
    }

    private static void firstAlongTheText() {
        promise = "I, FAULTS, the first along the text";
        fault("fine 101;fine", 4, 5);
        fault("fine 101 fine", 4, 5);
        fault("hand h;hand h 5", 2, 12);
        fault("hand x y;hand x;", 1, 7);
        fault("kind k rests 5 of 5 of;", 4, 18);
        fault("kind k rests 0 of 31x", 4, 18);
        fault("knows x y 99", 3, 6);
        fault("may all;may ((((((((", 6, 8);
        fault("wears ((((((((abcdefg", 5, 13);
        fault("wears ((((((( abcdefg", 1, 20);
        fault(TWO + "serves k for k at 100;", 3, TWO.length() + 13);
    }

    private static void openAtOnce() {
        promise = "I, FAULT 5: the 8th ( [ not that is open at once, at it";
        fine("wears " + "(".repeat(7) + "1" + ")".repeat(7) + ";");
        fault("wears " + "(".repeat(8) + "1" + ")".repeat(8) + ";", 5, 13);
        fault("wears " + "( ".repeat(8), 5, 20);
        fine("may " + "[".repeat(7) + "all" + "]".repeat(7) + ";");
        fault("may " + "[".repeat(8) + "all", 5, 11);
        fine("may " + "not ".repeat(7) + "all;");
        fault("may " + "not ".repeat(8) + "all;", 5, 32);
        fault("may " + "not ".repeat(9), 5, 32);
        fault("may not[not[not[not(", 5, 19);
        fine("may not[not[not[not 1=1]]];");
        fault("may [[[[[[[not all]]]]]]];", 5, 11);
        fault("may [[[[[[[(1)=1]]]]]]];", 5, 11);
        fine("may [[[[[[(1)=1]]]]]];");
        fault("may [[[[[[[1=(1)]]]]]]];", 5, 13);
        promise = "I, FAULT 5: the ( of min, max, if";
        for (String call : new String[] {"min(", "max(", "if(1="}) {
            fault("wears " + "(".repeat(7) + call, 5, 6 + 7 + call.indexOf('('));
            fault("wears " + "(".repeat(6) + call, 1, 6 + 6 + call.length());
        }
        fault("wears (((((((min 1", 1, 17);
        promise = "I, what can't stand there is a FAULT 1, however many are open";
        fault("wears (((((((1(", 1, 14);
        fault("wears (((((((1[", 1, 14);
        fault("wears (((((((not", 1, 13);
        fault("may [[[[[[[all[", 1, 14);
    }

    private static void openUntilItEnds() {
        promise = "I, FAULT 5: not until its FACT ends, the others until they close";
        fine("may not 1=1" + " and not 1=1".repeat(9) + " or not 1=1".repeat(9) + ";");
        fine("may " + "not ".repeat(7) + "all and " + "not ".repeat(7) + "all or " + "not ".repeat(7) + "all;");
        fault("may " + "not ".repeat(7) + "all and " + "not ".repeat(8) + "all;", 5, 4 + 28 + 8 + 28);
        fault("may not not not not not not not (1)=1;", 5, 32);
        fault("may not not not not not not not 1=(1);", 5, 34);
        fault("may not not not not not not not 1+2*3=4+(1);", 5, 40);
        fine("may not not not not not not not 1=1 or (1)=1;");
        fine("may not [not [not [not 1=1] and not 1=1] or (1)=1];");
        fine("wears (1)" + "+(1)".repeat(20) + ";");
        fine("wears ((((((1)))))) + min(1,((((((1))))))) + ((((((1))))));");
        fine("wears if([[[[[[all]]]]]],((((((1)))))),((((((2)))))));");
        fault("wears if([[[[[[all]]]]]],((((((1)))))),(((((((2))))))));", 5, 45);
        fault("wears if([[[[[[all]]]]]],(((((((1))))))),2);", 5, 31);
        fault("wears if([[[[[[[all", 5, 15);
        fault("wears if(not not not not not not not all", 5, 33);
    }

    private static void deepest() {
        promise = "I, seven open at once, each with as much waiting as can be";
        StringBuilder tests = new StringBuilder("may ");
        StringBuilder sums = new StringBuilder("wears ");
        for (int i = 0; i < 7; i++) {
            tests.append("1=2 or 1=1 and 9=2+1*if(");
            sums.append("1+1*if(1=2,50,");
        }
        tests.append("1=2 or 1=1 and 1=0+1*1").append(",7,8)".repeat(7));
        sums.append("1+2*3").append(")".repeat(7));
        is("tests in tests", of(HAND + "job j by 0 does k 1;" + tests + ";").days(1), 1);
        is("they are not just passed over", of(HAND + "job j by 0 does k 1;" + tests.toString().replace("1=0+1*1", "1=0+1*2")
                + ";").days(1), 0);
        is("sums in sums", sum(sums.substring(6)), 7 + 7);
        fault(HAND, tests + ",", 1, tests.length());
        fine("may " + "not ".repeat(7) + "1+1*2=3+4*5 or 1=1;");
    }

    private static void factsOfRules() {
        promise = "I, PART: in may: frost; used";
        for (String word : new String[] {"rest", "worn", "knows", "hours", "day", "late"}) {
            fine("may " + word + "=0;wears " + word + ";");
        }
        for (String word : new String[] {"frost", "used"}) {
            fine("may " + word + "=0;");
            fine("may if(" + word + "=0,1,2)=min(" + word + ",1);");
            fault("wears " + word + ";", 1, 6);
            fault("wears if(" + word + "=0,1,2);", 1, 9);
            fault("may all;", "wears 1+" + word, 1, 8);
            fault("wears 1;", "may " + word, 1, 4 + word.length());
        }
        promise = "I, PART: no other word";
        for (String own : OWN) {
            if (!"rest worn knows hours day late min max if".contains(own)) {
                fault("wears " + own, 1, 6);
            }
        }
        fault("wears x;", 1, 6);
        fault(HAND, "wears h;", 1, 6);
        fault("may x;", 1, 4);
        fault("wears ;", 1, 6);
        fault("may ;", 1, 4);
        fault("wears ();", 1, 7);
        fault("may [];", 1, 5);
    }

    private static void floors() {
        promise = "I, / gives the greatest whole number not above, % what is left (a less b times that)";
        int[][] due = {{7, 2, 3, 1}, {6, 2, 3, 0}, {-7, 2, -4, 1}, {-6, 2, -3, 0}, {7, -2, -4, -1}, {6, -2, -3, 0},
            {-7, -2, 3, -1}, {-6, -2, 3, 0}, {0, 5, 0, 0}, {0, -5, 0, 0}, {1, 9999, 0, 1}, {-1, 9999, -1, 9998},
            {1, -9999, -1, -9998}, {-1, -9999, 0, -1}, {9999, 1, 9999, 0}, {-9999, 1, -9999, 0}, {9999, -1, -9999, 0}};
        for (int[] row : due) {
            is(row[0] + " / " + row[1], test(number(row[0]) + "/" + number(row[1]) + "=" + number(row[2])), true);
            is(row[0] + " % " + row[1], test(number(row[0]) + "%" + number(row[1]) + "=" + number(row[3])), true);
        }
        is("of the greatest", test("(0-1000*1000)%(1000*1000-1)=1000*1000-2"), true);
        is("of the greatest", test("1000*1000%(1-1000*1000)=2-1000*1000"), true);
        is("of the greatest", test("(0-1000*1000)/(0-1)=1000*1000"), true);
    }

    private static String number(int n) {
        return n < 0 ? "(0-" + -n + ")" : "" + n;
    }

    private static void byZero() {
        promise = "I, by 0 both give 0";
        for (String a : new String[] {"0", "7", "(0-7)", "1000*1000"}) {
            is(a + " / 0", test(a + "/0=0"), true);
            is(a + " % 0", test(a + "%0=0"), true);
            is(a + " / (3-3)", test(a + "/(3-3)=0"), true);
            is(a + " % (3-3)", test(a + "%(3-3)=0"), true);
        }
        is("and it goes on", sum("7/0+3*2"), 6);
        is("in the part that an if leaves out", sum("if(all,5,7/0)"), 5);
    }

    private static void largestResults() {
        promise = "I, each result above 10 to the 6 is that, below -10 to the 6 likewise";
        String most = "9999*100+100";
        String least = "(0-9999)*100-100";
        is("10 to the 6", test(most + "=1000*1000"), true);
        is("one below it", test(most + "-1<1000*1000"), true);
        is("one below it", test(most + "-1+1=1000*1000"), true);
        is("+ above it", test(most + "+1-1<1000*1000"), true);
        is("- above it", test(most + "-(0-1)=1000*1000"), true);
        is("* above it", test("1001*1000=1000*1000"), true);
        is("* far above it", test("9999*9999*9999*9999=1000*1000"), true);
        is("-10 to the 6", test(least + "=0-1000*1000"), true);
        is("one above it", test(least + "+1>0-1000*1000"), true);
        is("one above it", test(least + "+1-1=0-1000*1000"), true);
        is("- below it", test(least + "-1+1>0-1000*1000"), true);
        is("+ below it", test(least + "+(0-1)=0-1000*1000"), true);
        is("* below it", test("(0-1001)*1000=0-1000*1000"), true);
        is("* far below it", test("(0-9999)*9999*9999*9999=0-1000*1000"), true);
        is("* of two below 0", test("(0-9999)*(0-9999)=1000*1000"), true);
        is("each result, not the last alone", sum("9999*9999-9999*100-50"), 50);
    }

    private static void comparisons() {
        promise = "I, SIGN < or > or =, at the edge";
        int[][] rows = {{1, 2}, {2, 2}, {3, 2}, {-1, 0}, {0, 0}, {0, -1}};
        for (int[] row : rows) {
            String a = number(row[0]);
            String b = number(row[1]);
            is(a + "<" + b, test(a + "<" + b), row[0] < row[1]);
            is(a + ">" + b, test(a + ">" + b), row[0] > row[1]);
            is(a + "=" + b, test(a + "=" + b), row[0] == row[1]);
            is("min", test("min(" + a + "," + b + ")=" + number(Math.min(row[0], row[1]))), true);
            is("max", test("max(" + a + "," + b + ")=" + number(Math.max(row[0], row[1]))), true);
            is("if", test("if(" + a + "<" + b + ",5,6)=" + (row[0] < row[1] ? 5 : 6)), true);
        }
    }

    private static void strengths() {
        promise = "I, all from the left on";
        is("- and -", sum("20-5-3"), 12);
        is("- and +", sum("20-5+3"), 18);
        is("/ and *", sum("20/3*3"), 18);
        is("* and /", sum("20*3/3"), 20);
        is("% and *", sum("20%3*3"), 6);
        is("/ and /", sum("80/4/2"), 10);
        is("* ahead of +", sum("2+3*4"), 14);
        is("% ahead of -", sum("20-9%5"), 16);
        is("not ahead of and", test("not 1=2 and 1=2"), false);
        is("not ahead of or", test("not 1=1 or 1=1"), true);
        is("and ahead of or", test("1=1 or 1=1 and 1=2"), true);
        is("and ahead of or", test("1=2 and 1=2 or 1=1"), true);
        is("brackets", test("[1=1 or 1=1] and 1=2"), false);
        is("not not", test("not not 1=1"), true);
        is("not of brackets", test("not [1=1 and 1=2]"), true);
        is("all", test("all"), true);
        is("not all", test("not all"), false);
    }

    private static void holdsOrNot() {
        promise = "I, a FACT that holds, in not, and, or, if";
        for (String fact : new String[] {"1<2", "2>1", "2=2", "all", "[1<2]", "not 2<1", "not 1>2", "not 1=2", "not not all"}) {
            is(fact, test(fact), true);
            is("not " + fact, test("not " + fact), false);
            is("not not " + fact, test("not not " + fact), true);
            is(fact + " and", test(fact + " and all and 1<2 and 2>1 and 2=2"), true);
            is("and " + fact, test("2=2 and 2>1 and 1<2 and all and " + fact), true);
            is(fact + " and not", test(fact + " and not all"), false);
            is("or " + fact, test("not all or 2<1 or " + fact), true);
            is("not [or]", test("not [not all or " + fact + "]"), false);
            is("if " + fact, sum("if(" + fact + ",5,6)"), 5);
            is("if not " + fact, sum("if(not [" + fact + "],5,6)"), 6);
        }
        promise = "I, a FACT that does not hold, in not, and, or, if";
        for (String fact : new String[] {"2<2", "2>2", "1=2", "2<1", "1>2", "not all", "[2<1]", "not 1<2", "not 2>1", "not 2=2"}) {
            is(fact, test(fact), false);
            is("not " + fact, test("not " + fact), true);
            is(fact + " and", test(fact + " and all"), false);
            is("and " + fact, test("2=2 and 2>1 and " + fact), false);
            is(fact + " or", test(fact + " or 1<2"), true);
            is("or " + fact, test("not all or 2<1 or " + fact), false);
            is("not [and]", test("not [all and " + fact + "]"), true);
            is("if " + fact, sum("if(" + fact + ",5,6)"), 6);
        }
    }
}
