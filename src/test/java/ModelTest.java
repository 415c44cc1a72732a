import java.nio.charset.StandardCharsets;
import java.util.ArrayList;
import java.util.List;
import java.util.Random;

/** Random runs of calls, by fixed seeds, on the program and on Model: every answer must be the same. */
public final class ModelTest {
    private static final int RUNS = 4000;
    // Behind the 512th call of an object every answer is free.
    private static final int CALLS = 512;
    // What one turn may ask at most: a new YEAR, an image written and read, some questions.
    private static final int TURN_MOST = 240;
    private static final int QUESTIONS = 30;

    private final Random random;
    private final int run;
    private final ToolSaints x = new ToolSaints();
    private final Model m = new Model();
    private final List<String> story = new ArrayList<>();
    private int asked;
    private boolean wrong;

    private ModelTest(int run) {
        this.run = run;
        this.random = new Random(run);
    }

    public static void main(String[] args) {
        int bad = 0;
        int runs = args.length > 0 ? Integer.parseInt(args[0]) : RUNS;
        int from = args.length > 1 ? Integer.parseInt(args[1]) : 0;
        for (int run = from; run < from + runs && bad < 3; run++) {
            ModelTest test = new ModelTest(run);
            test.play();
            bad += test.wrong ? 1 : 0;
        }
        System.out.println(bad == 0 ? "the program answers as the model" : bad + " runs differ");
        if (bad != 0) {
            System.exit(1);
        }
    }

    private void same(String call, long got, long want) {
        asked++;
        story.add(call + " -> " + got);
        if (got != want && !wrong) {
            wrong = true;
            int last = Math.max(0, story.size() - 40);
            System.out.println("run " + run + ": " + String.join("\n  ", story.subList(last, story.size()))
                    + "\n  where the model answers " + want);
        }
    }

    private static long bit(boolean b) {
        return b ? 1 : 0;
    }

    private int near(int least, int most) {
        return least + random.nextInt(most - least + 1);
    }

    private boolean rarely(int n) {
        return random.nextInt(n) == 0;
    }

    private void play() {
        newYear();
        while (asked <= CALLS - TURN_MOST && !wrong) {
            if (rarely(60)) {
                newYear();
            }
            call();
            for (int i = rarely(9) ? QUESTIONS : 0; i > 0; i--) {
                question();
            }
        }
        while (asked < CALLS && !wrong) {
            question();
        }
    }

    private void feedAll(byte[] bytes) {
        for (int from = 0; from < bytes.length; from += 20) {
            int[] n = new int[5];
            for (int i = 0; i < 5; i++) {
                n[i] = Tape.numberAt(bytes, from + 4 * i);
            }
            same("feed", x.feed(n[0], n[1], n[2], n[3], n[4]), m.feed(n[0], n[1], n[2], n[3], n[4]));
        }
        same("end(" + bytes.length + ")", bit(x.end(bytes.length)), bit(m.end(bytes.length)));
    }

    private void newYear() {
        String text = new YearText(random).text();
        if (rarely(2)) {
            text = new YearText(random).spoiled(text);
        }
        byte[] bytes = text.getBytes(StandardCharsets.ISO_8859_1);
        if (bytes.length > 1600) {
            bytes = java.util.Arrays.copyOf(bytes, 1600);
        }
        same("end(0)", bit(x.end(0)), bit(m.end(0)));
        feedAll(bytes);
        same("year() of " + text, x.year(), m.year());
        same("fault(0)", x.fault(0), m.fault(0));
        same("fault(1)", x.fault(1), m.fault(1));
    }

    private void call() {
        int a = near(-1, 6);
        int b = near(-1, 6);
        int n = rarely(8) ? near(-1, 102) : near(0, 12);
        switch (random.nextInt(30)) {
            case 0, 1 -> same("days(" + n + ")", x.days(n), m.days(n));
            case 2, 3 -> same("chance(" + n + ")", x.chance(n), m.chance(n));
            case 4, 5 -> same("hold(" + a + "," + n % 3 + ")", bit(x.hold(a, n % 3)), bit(m.hold(a, n % 3)));
            case 6 -> same("swap(" + a + "," + b + ")", bit(x.swap(a, b)), bit(m.swap(a, b)));
            case 7, 8 -> {
                int day = rarely(9) ? near(-1, 1001) : near(0, 30);
                same("due(" + a + "," + day + ")", bit(x.due(a, day)), bit(m.due(a, day)));
            }
            case 9, 10 -> same("undo()", bit(x.undo()), bit(m.undo()));
            case 11 -> {
                int s = random.nextInt();
                same("seed(" + s + ")", bit(x.seed(s)), bit(m.seed(s)));
            }
            case 12 -> shavings();
            case 13 -> imageOn();
            case 14, 15 -> same("later(" + n + "," + a + ")", x.later(n, a), m.later(n, a));
            case 16 -> same("done(" + a + ")", x.done(a), m.done(a));
            case 17 -> same("late(" + n + ")", x.late(n), m.late(n));
            case 18 -> order(rarely(9) ? near(-1, 31) : near(1, 9));
            case 19 -> moved(rarely(9) ? near(-1, 61) : near(1, 20));
            case 20, 21 -> same("makeshift(" + a + "," + b + "," + (n - 2) % 6 + ")", x.makeshift(a, b, (n - 2) % 6),
                    m.makeshift(a, b, (n - 2) % 6));
            case 22 -> same("hangs(" + a + "," + n + ")", x.hangs(a, n), m.hangs(a, n));
            case 23 -> same("guard(" + a + "," + n + ")", x.guard(a, n), m.guard(a, n));
            case 24, 25 -> same("loan(" + a + "," + n % 4 + ")", x.loan(a, n % 4), m.loan(a, n % 4));
            case 26 -> same("end(" + n + ")", bit(x.end(n)), bit(m.end(n)));
            case 27 -> same("feed(" + a + ")", x.feed(a, b, n, 0, -1), m.feed(a, b, n, 0, -1));
            default -> same("when(" + a + ")", x.when(a), m.when(a));
        }
    }

    private void order(int n) {
        for (int k = -2; k < 7; k++) {
            if (k < 0 || rarely(3)) {
                same("order(" + n + "," + k + ")", x.order(n, k), m.order(n, k));
            }
        }
    }

    private void moved(int n) {
        for (int what = -1; what < 4; what++) {
            same("moved(" + n + "," + what + ")", x.moved(n, what), m.moved(n, what));
        }
    }

    private void shavings() {
        int length = rarely(6) ? near(0, 36) : 2 * near(1, 3);
        byte[] rows = new byte[length];
        for (int i = 0; i < length; i++) {
            rows[i] = (byte) (i % 2 == 1 ? near(0, rarely(9) ? 2 : 1) : near(0, rarely(9) ? 8 : 3));
        }
        same("end(0)", bit(x.end(0)), bit(m.end(0)));
        feedAll(rows);
        same("shavings()", x.shavings(), m.shavings());
        int step = rarely(9) ? 1 : near(5, 20);
        for (int k = -1; k < 63; k += step) {
            same("when(" + k + ")", x.when(k), m.when(k));
        }
    }

    private void imageOn() {
        int length = x.image();
        same("image()", length, m.image());
        int[] image = new int[length];
        boolean whole = rarely(4);
        for (int k = 0; k < length; k++) {
            image[k] = m.octet(k);
            if (whole || rarely(9)) {
                same("octet(" + k + ")", x.octet(k), image[k]);
            }
        }
        if (rarely(2)) {
            int changes = near(1, 3);
            for (int i = 0; i < changes; i++) {
                image[random.nextInt(length)] = rarely(3) ? near(0, 255) : near(0, 10);
            }
            image = rarely(5) ? image : Tape.summed(image);
        }
        byte[] bytes = new byte[rarely(9) ? Math.max(0, length + near(-1, 1)) : length];
        for (int i = 0; i < Math.min(length, bytes.length); i++) {
            bytes[i] = (byte) image[i];
        }
        same("end(0)", bit(x.end(0)), bit(m.end(0)));
        feedAll(bytes);
        same("on()", bit(x.on()), bit(m.on()));
    }

    /** Any question, mostly of what may be there. */
    private void question() {
        int a = near(-1, rarely(9) ? 14 : 5);
        int b = near(-1, rarely(9) ? 25 : 5);
        int step = near(0, 24);
        switch (random.nextInt(11)) {
            case 0 -> same("has(" + (a + b) + ")", x.has(a + b), m.has(a + b));
            case 1 -> same("status(" + a + ")", x.status(a), m.status(a));
            case 2 -> same("fault(" + a + ")", x.fault(a), m.fault(a));
            case 3 -> same("octet(" + (a + step) + ")", x.octet(a + step), m.octet(a + step));
            case 4 -> same("kind(" + a + "," + b + ")", x.kind(a, b), m.kind(a, b));
            case 5 -> same("tool(" + a + "," + b + ")", x.tool(a, b), m.tool(a, b));
            case 6 -> same("knows(" + a + "," + b + ")", x.knows(a, b), m.knows(a, b));
            case 7 -> same("job(" + a + "," + b + ")", x.job(a, b), m.job(a, b));
            case 8 -> same("job(" + a + "," + step + ")", x.job(a, step), m.job(a, step));
            case 9 -> same("kept(" + step + "," + a + ")", x.kept(step, a), m.kept(step, a));
            default -> same("letter(" + a + "," + b + "," + step % 7 + ")", x.letter(a, b, step % 7),
                    m.letter(a, b, step % 7));
        }
    }

    /** Texts of random YEARS, sound ones and spoiled ones. */
    private static final class YearText {
        private static final String[] SCRAPS = {" ", ";", "not ", "(", "[", ")", "]", "k", "kind ", "1", "12345",
            "abcdefg", "or", "%", "\n", "\t", "frost", "used", "0", "99", "100", "1000", "ka", "ta", "A", "5a", "a5",
            ",", "if(", "min (", "(((((((((", "not not not not not not not not ", "=", "fine 1;", "\u00e9"};

        private static final List<String> STEP_NAMES = List.of("ka", "kb", "x", "by", "abcdefg", "A", "5");

        private final Random r;
        private final List<String> kinds = new ArrayList<>();
        private final List<String> tools = new ArrayList<>();
        private final List<String> hands = new ArrayList<>();
        private final List<String> all = new ArrayList<>();
        private final StringBuilder b = new StringBuilder();

        YearText(Random r) {
            this.r = r;
        }

        private int near(int least, int most) {
            return least + r.nextInt(most - least + 1);
        }

        private String name(String first) {
            StringBuilder n = new StringBuilder(first);
            n.append((char) ('a' + all.size()));
            while (n.length() < 6 && r.nextInt(3) == 0) {
                n.append((char) ('a' + r.nextInt(26)));
            }
            all.add(n.toString());
            return n.toString();
        }

        private static String any(Random r, List<String> list) {
            return list.get(r.nextInt(list.size()));
        }

        String text() {
            int jobs = near(0, r.nextInt(5) == 0 ? 6 : 4);
            for (int i = near(1, r.nextInt(4) == 0 ? 6 : 3); i > 0; i--) {
                int round = near(2, r.nextInt(4) == 0 ? 30 : 6);
                kinds.add(name("k"));
                b.append("kind " + kinds.get(kinds.size() - 1) + " rests " + r.nextInt(round) + " of " + round + ";");
            }
            for (int i = near(0, r.nextInt(4) == 0 ? 8 : 5); i > 0; i--) {
                tools.add(name("t"));
                b.append("tool " + tools.get(tools.size() - 1) + " is " + any(r, kinds) + " worn "
                        + near(0, r.nextInt(3) == 0 ? 99 : 20) + ";");
            }
            for (int i = near(0, r.nextInt(4) == 0 ? 6 : 4); i > 0; i--) {
                hands.add(name("h"));
                b.append("hand " + hands.get(hands.size() - 1) + ";");
            }
            for (int i = near(0, 8); i > 0 && !hands.isEmpty() && !tools.isEmpty(); i--) {
                b.append("knows " + any(r, hands) + " " + any(r, tools) + " " + near(0, 9) + ";");
            }
            for (int i = 0; i < jobs; i++) {
                b.append("job " + name("j") + " by " + near(0, r.nextInt(9) == 0 ? 999 : 12) + " does");
                for (int s = near(1, 4); s > 0; s--) {
                    b.append(" " + any(r, kinds) + " " + near(1, 9));
                }
                b.append(";");
            }
            for (int i = near(0, 9); i > 0; i--) {
                String one = any(r, kinds);
                String other = any(r, kinds);
                if (!one.equals(other)) {
                    b.append("serves " + one + " for " + other + " at " + near(1, r.nextBoolean() ? 4 : 99) + ";");
                }
            }
            settings();
            return b.toString();
        }

        private void settings() {
            if (r.nextInt(3) > 0) {
                b.append("may " + test(2) + ";");
            }
            if (r.nextInt(2) > 0) {
                b.append("wears " + sum(2, false) + ";");
            }
            if (r.nextInt(2) > 0) {
                b.append("breaks " + near(1, 100) + ";");
            }
            if (r.nextInt(2) > 0) {
                int round = near(2, 30);
                b.append("smith " + r.nextInt(round) + " of " + round + ";");
            }
            if (r.nextInt(2) > 0) {
                b.append("fine " + near(0, 100) + ";");
            }
            if (r.nextInt(3) > 0) {
                b.append("frost " + near(0, 100) + "\n;");
            }
        }

        private String test(int depth) {
            return switch (r.nextInt(depth > 0 ? 8 : 3)) {
                case 0 -> r.nextBoolean() ? "all" : "rest = 0";
                case 1, 2 -> sum(depth - 1, true) + "<>=".charAt(r.nextInt(3)) + sum(depth - 1, true);
                case 3 -> "not " + test(depth - 1);
                case 4 -> "[" + test(depth - 1) + "]";
                case 5, 6 -> test(depth - 1) + " or " + test(depth - 1);
                default -> test(depth - 1) + " and " + test(depth - 1);
            };
        }

        private String sum(int depth, boolean inMay) {
            String[] facts = {"rest", "worn", "knows", "hours", "day", "late", "frost", "used"};
            return switch (r.nextInt(depth > 0 ? 9 : 4)) {
                case 0 -> "" + near(0, r.nextInt(5) == 0 ? 9999 : 12);
                case 1, 2, 3 -> facts[r.nextInt(inMay ? 8 : 6)];
                case 4, 5, 6 -> sum(depth - 1, inMay) + "+-*/%".charAt(r.nextInt(5)) + sum(depth - 1, inMay);
                case 7 -> (r.nextBoolean() ? "min" : "max") + "(" + sum(depth - 1, inMay) + "," + sum(depth - 1, inMay)
                        + ")";
                default -> r.nextBoolean() ? "(" + sum(depth - 1, inMay) + ")"
                        : "if (" + sum(0, inMay) + "<" + sum(0, inMay) + "," + sum(depth - 1, inMay) + ","
                        + sum(depth - 1, inMay) + ")";
            };
        }

        String spoiled(String sound) {
            StringBuilder text = new StringBuilder(sound);
            for (int i = near(1, 2); i > 0; i--) {
                int at = r.nextInt(text.length() + 1);
                switch (r.nextInt(7)) {
                    case 0 -> text.insert(at, SCRAPS[r.nextInt(SCRAPS.length)]);
                    case 1 -> text.replace(at, Math.min(text.length(), at + near(1, 3)),
                            SCRAPS[r.nextInt(SCRAPS.length)]);
                    case 2 -> text.delete(at, Math.min(text.length(), at + near(1, 6)));
                    case 3 -> text.setLength(at);
                    case 4 -> text.insert(at, text.substring(at, Math.min(text.length(), at + near(1, 90))));
                    case 5 -> spoilSteps(text, at);
                    default -> text.insert(text.indexOf(";") + 1, "fine 1;".repeat(near(60, 90)));
                }
            }
            return text.toString();
        }

        /** A step or a word more behind a JOB's last one, half of the time without its blank. */
        private void spoilSteps(StringBuilder text, int at) {
            int job = Math.max(text.indexOf("job ", at), text.indexOf("job "));
            int last = job < 0 ? -1 : text.indexOf(";", job);
            if (last >= 0) {
                String more = r.nextBoolean() ? any(r, STEP_NAMES) + " 1" : any(r, STEP_NAMES);
                text.insert(last, (r.nextBoolean() ? " " : "") + more);
            }
        }
    }
}
