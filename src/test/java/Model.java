import java.util.ArrayDeque;
import java.util.ArrayList;
import java.util.Arrays;
import java.util.Deque;
import java.util.HashMap;
import java.util.List;
import java.util.Map;
import java.util.Set;
import java.util.TreeMap;

/**
 * A second telling of the document, with the whole Java library and without any thrift,
 * against which ModelTest holds the program.
 */
final class Model {
    static final int NONE = -1;
    static final Set<String> OWN = Set.of("kind", "rests", "of", "tool", "is", "worn", "hand", "knows", "job", "by",
            "does", "serves", "for", "at", "may", "wears", "breaks", "smith", "fine", "frost", "rest", "hours", "day",
            "late", "used", "if", "or", "and", "not", "all", "min", "max");

    interface Sum {
        long of(Map<String, Long> facts);
    }

    interface Test {
        boolean of(Map<String, Long> facts);
    }

    static final class Fault extends RuntimeException {
        private static final long serialVersionUID = 1L;
        final int code;
        final int place;

        Fault(int code, int place) {
            this.code = code;
            this.place = place;
        }
    }

    static final class Kind {
        int rest;
        int round;
    }

    static final class Tool {
        int kind;
        int worn;
        boolean broken;
        boolean held;

        Tool copy() {
            Tool t = new Tool();
            t.kind = kind;
            t.worn = worn;
            t.broken = broken;
            t.held = held;
            return t;
        }
    }

    static final class Job {
        int term;
        int done;
        int[][] steps;

        boolean finished() {
            return done == steps.length;
        }

        Job copy() {
            Job j = new Job();
            j.term = term;
            j.done = done;
            j.steps = steps;
            return j;
        }
    }

    /** What a text gives, with what changes by days as it is at first. */
    static final class World {
        List<Map<String, Integer>> names = List.of(new HashMap<>(), new HashMap<>(), new HashMap<>(), new HashMap<>());
        List<Kind> kinds = new ArrayList<>();
        List<Tool> tools = new ArrayList<>();
        List<int[]> hands = new ArrayList<>();
        List<Job> jobs = new ArrayList<>();
        int[][] serves = new int[6][6];
        Test may;
        Sum wears;
        int breaks = 100;
        int smith = 0;
        int smithRound = 9;
        int fine = 5;
        int frost = 0;
        int day = 0;
        int fines = 0;
        List<int[]> kept = new ArrayList<>();
        // Of the day that was worked last, and all days so far.
        Set<Integer> toolsToday = new java.util.HashSet<>();
        int lateAll = 0;
        int stepsAll = 0;

        World copy() {
            World w = new World();
            w.names = names;
            for (Kind k : kinds) {
                Kind n = new Kind();
                n.rest = k.rest;
                n.round = k.round;
                w.kinds.add(n);
            }
            for (Tool t : tools) {
                w.tools.add(t.copy());
            }
            for (int[] h : hands) {
                w.hands.add(h.clone());
            }
            for (Job j : jobs) {
                w.jobs.add(j.copy());
            }
            w.serves = serves;
            w.may = may;
            w.wears = wears;
            w.breaks = breaks;
            w.smith = smith;
            w.smithRound = smithRound;
            w.fine = fine;
            w.frost = frost;
            w.day = day;
            w.fines = fines;
            w.kept = new ArrayList<>(kept);
            return w;
        }

        int lateness(Job j) {
            return j.finished() || day <= j.term ? 0 : day - j.term;
        }

        void pay() {
            fines = Math.min(9999, fines + fine);
        }

        void pass(boolean frosty, List<Integer> row) {
            if (day % smithRound == smith) {
                for (Tool t : tools) {
                    if (t.broken) {
                        t.broken = false;
                        t.worn = 0;
                    }
                }
            }
            toolsToday.clear();
            Set<Integer> handsToday = new java.util.HashSet<>();
            for (int j : row) {
                if (!jobs.get(j).finished()) {
                    work(j, frosty, handsToday);
                }
            }
            for (Job j : jobs) {
                int late = lateness(j);
                lateAll += late;
                if (late > 0) {
                    pay();
                }
            }
            day++;
        }

        private void work(int j, boolean frosty, Set<Integer> handsToday) {
            Job job = jobs.get(j);
            int[] step = job.steps[job.done];
            Kind kind = kinds.get(step[0]);
            boolean resting = day % kind.round == kind.rest;
            TreeMap<Integer, int[]> able = new TreeMap<>();
            for (int t = 0; t < tools.size(); t++) {
                Tool tool = tools.get(t);
                if (tool.kind != step[0] || tool.broken || tool.held || toolsToday.contains(t)) {
                    continue;
                }
                int hand = NONE;
                for (int h = hands.size() - 1; h >= 0; h--) {
                    if (!handsToday.contains(h) && (hand == NONE || hands.get(h)[t] >= hands.get(hand)[t])) {
                        hand = h;
                    }
                }
                if (hand == NONE) {
                    continue;
                }
                if (may == null ? !resting : may.of(facts(j, t, hand, resting, frosty))) {
                    able.put(tool.worn * 10 + t, new int[] {t, hand});
                }
            }
            if (able.isEmpty()) {
                return;
            }
            int t = able.firstEntry().getValue()[0];
            int h = able.firstEntry().getValue()[1];
            Tool tool = tools.get(t);
            long wear = wears == null ? step[1] : wears.of(facts(j, t, h, resting, frosty));
            tool.worn = Math.min(100, tool.worn + (int) Math.min(99, Math.max(0, wear)));
            hands.get(h)[t] = Math.min(9, hands.get(h)[t] + 1);
            if (resting) {
                pay();
            }
            if (tool.worn >= breaks) {
                tool.broken = true;
            }
            toolsToday.add(t);
            handsToday.add(h);
            job.done++;
            stepsAll++;
            kept.add(new int[] {day, j, t, h});
        }

        private Map<String, Long> facts(int j, int t, int h, boolean resting, boolean frosty) {
            Map<String, Long> facts = new HashMap<>();
            Job job = jobs.get(j);
            facts.put("rest", resting ? 1L : 0L);
            facts.put("worn", (long) tools.get(t).worn);
            facts.put("knows", (long) hands.get(h)[t]);
            facts.put("hours", (long) job.steps[job.done][1]);
            facts.put("day", (long) day);
            facts.put("late", (long) lateness(job));
            facts.put("frost", frosty ? 1L : 0L);
            facts.put("used", (long) toolsToday.size());
            return facts;
        }
    }

    /** Reads a text; a Fault is thrown. */
    static final class Text {
        final byte[] t;
        int p = 0;
        int at;
        String token = "";
        boolean inMay;
        World w = new World();

        Text(byte[] t) {
            this.t = t;
        }

        static boolean letter(int c) {
            return c >= 'a' && c <= 'z';
        }

        static boolean digit(int c) {
            return c >= '0' && c <= '9';
        }

        int firstByte() {
            int q = p;
            while (q < t.length && (t[q] == 10 || t[q] == 32)) {
                q++;
            }
            at = q;
            return q < t.length ? t[q] & 255 : NONE;
        }

        boolean glued() {
            return at == p && p > 0 && at < t.length && (letter(t[at]) || digit(t[at]))
                    && (letter(t[p - 1]) || digit(t[p - 1]));
        }

        String peek() {
            int c = firstByte();
            if (c == NONE) {
                return token = "";
            }
            if (glued()) {
                throw new Fault(1, at);
            }
            int q = at;
            if (letter(c)) {
                while (q < t.length && letter(t[q])) {
                    if (q - at == 6) {
                        throw new Fault(1, q);
                    }
                    q++;
                }
            } else if (digit(c)) {
                while (q < t.length && digit(t[q])) {
                    if (q - at == 4) {
                        throw new Fault(1, q);
                    }
                    q++;
                }
            } else {
                q++;
            }
            return token = new String(t, at, q - at, java.nio.charset.StandardCharsets.ISO_8859_1);
        }

        String next() {
            String s = peek();
            p = at + s.length();
            return s;
        }

        boolean accept(String s) {
            if (peek().equals(s)) {
                next();
                return true;
            }
            return false;
        }

        void expect(String... words) {
            for (String s : words) {
                if (!accept(s)) {
                    throw new Fault(1, at);
                }
            }
        }

        int number(int least, int most) {
            String s = peek();
            if (s.isEmpty() || !digit(s.charAt(0))) {
                throw new Fault(1, at);
            }
            int n = Integer.parseInt(s);
            if (n < least || n > most) {
                throw new Fault(4, at);
            }
            next();
            return n;
        }

        String name() {
            String s = peek();
            if (s.isEmpty() || !letter(s.charAt(0)) || OWN.contains(s)) {
                throw new Fault(1, at);
            }
            return s;
        }

        int fresh(int sort) {
            String s = name();
            for (Map<String, Integer> m : w.names) {
                if (m.containsKey(s)) {
                    throw new Fault(2, at);
                }
            }
            next();
            int k = w.names.get(sort).size();
            w.names.get(sort).put(s, k);
            return k;
        }

        int old(int sort, int unlike) {
            Integer k = w.names.get(sort).get(name());
            if (k == null || k == unlike) {
                throw new Fault(3, at);
            }
            next();
            return k;
        }

        int all() {
            int count = 0;
            while (firstByte() != NONE) {
                if (count == 80) {
                    throw new Fault(6, at);
                }
                statement();
                expect(";");
                count++;
            }
            return count;
        }

        void limit(boolean tooMany) {
            if (tooMany) {
                throw new Fault(6, at);
            }
            next();
        }

        void statement() {
            switch (peek()) {
                case "kind" -> {
                    limit(w.kinds.size() == 6);
                    fresh(0);
                    expect("rests");
                    Kind k = new Kind();
                    k.rest = number(0, 9999);
                    expect("of");
                    k.round = number(Math.max(2, k.rest + 1), 30);
                    w.kinds.add(k);
                }
                case "tool" -> {
                    limit(w.tools.size() == 8);
                    fresh(1);
                    expect("is");
                    Tool t = new Tool();
                    t.kind = old(0, NONE);
                    expect("worn");
                    t.worn = number(0, 99);
                    w.tools.add(t);
                }
                case "hand" -> {
                    limit(w.hands.size() == 6);
                    fresh(2);
                    w.hands.add(new int[8]);
                }
                case "knows" -> {
                    next();
                    int h = old(2, NONE);
                    int t = old(1, NONE);
                    w.hands.get(h)[t] = number(0, 9);
                }
                case "job" -> {
                    limit(w.jobs.size() == 6);
                    job();
                }
                case "serves" -> {
                    next();
                    int a = old(0, NONE);
                    expect("for");
                    int b = old(0, a);
                    expect("at");
                    w.serves[a][b] = number(1, 99);
                }
                case "may" -> {
                    limit(w.may != null);
                    inMay = true;
                    w.may = test(0);
                }
                case "wears" -> {
                    limit(w.wears != null);
                    inMay = false;
                    w.wears = sum(0);
                }
                case "breaks" -> {
                    next();
                    w.breaks = number(1, 100);
                }
                case "smith" -> {
                    next();
                    w.smith = number(0, 9999);
                    expect("of");
                    w.smithRound = number(Math.max(2, w.smith + 1), 30);
                }
                case "fine" -> {
                    next();
                    w.fine = number(0, 100);
                }
                case "frost" -> {
                    next();
                    w.frost = number(0, 100);
                }
                default -> throw new Fault(1, at);
            }
        }

        void job() {
            fresh(3);
            expect("by");
            Job j = new Job();
            j.term = number(0, 999);
            expect("does");
            List<int[]> steps = new ArrayList<>();
            do {
                int kind = old(0, NONE);
                steps.add(new int[] {kind, number(1, 9)});
                int c = firstByte();
                if (steps.size() == 4 && letter(c)) {
                    throw new Fault(6, at);
                }
            } while (letter(firstByte()));
            j.steps = steps.toArray(new int[0][]);
            w.jobs.add(j);
        }

        int opened(int depth) {
            if (depth == 7) {
                throw new Fault(5, at);
            }
            next();
            return depth + 1;
        }

        Test test(int depth) {
            Test a = both(depth);
            while (accept("or")) {
                Test l = a;
                Test r = both(depth);
                a = f -> l.of(f) || r.of(f);
            }
            return a;
        }

        Test both(int depth) {
            Test a = fact(depth);
            while (accept("and")) {
                Test l = a;
                Test r = fact(depth);
                a = f -> l.of(f) && r.of(f);
            }
            return a;
        }

        Test fact(int depth) {
            switch (peek()) {
                case "not": {
                    Test a = fact(opened(depth));
                    return f -> !a.of(f);
                }
                case "[": {
                    Test a = test(opened(depth));
                    expect("]");
                    return a;
                }
                case "all":
                    next();
                    return f -> true;
                default:
            }
            Sum a = sum(depth);
            String sign = peek();
            if (!Set.of("<", ">", "=").contains(sign)) {
                throw new Fault(1, at);
            }
            next();
            Sum b = sum(depth);
            return f -> {
                int c = Long.compare(a.of(f), b.of(f));
                return sign.equals("<") ? c < 0 : sign.equals(">") ? c > 0 : c == 0;
            };
        }

        static long clamp(long v) {
            return v > 1_000_000 ? 1_000_000 : v < -1_000_000 ? -1_000_000 : v;
        }

        static long floor(long a, long b) {
            return (long) Math.floor((double) a / (double) b);
        }

        Sum sum(int depth) {
            Sum a = product(depth);
            while (Set.of("+", "-").contains(peek())) {
                boolean plus = next().equals("+");
                Sum l = a;
                Sum r = product(depth);
                a = f -> clamp(plus ? l.of(f) + r.of(f) : l.of(f) - r.of(f));
            }
            return a;
        }

        Sum product(int depth) {
            Sum a = part(depth);
            while (Set.of("*", "/", "%").contains(peek())) {
                String op = next();
                Sum l = a;
                Sum r = part(depth);
                a = f -> {
                    long x = l.of(f);
                    long y = r.of(f);
                    if (op.equals("*")) {
                        return clamp(x * y);
                    }
                    if (y == 0) {
                        return 0;
                    }
                    return clamp(op.equals("/") ? floor(x, y) : x - y * floor(x, y));
                };
            }
            return a;
        }

        Sum part(int depth) {
            String s = peek();
            switch (s) {
                case "(": {
                    Sum a = sum(opened(depth));
                    expect(")");
                    return a;
                }
                case "min":
                case "max":
                case "if":
                    next();
                    if (!peek().equals("(")) {
                        throw new Fault(1, at);
                    }
                    return call(s, opened(depth));
                case "rest":
                case "worn":
                case "knows":
                case "hours":
                case "day":
                case "late":
                    next();
                    return f -> f.get(s);
                case "frost":
                case "used":
                    if (!inMay) {
                        throw new Fault(1, at);
                    }
                    next();
                    return f -> f.get(s);
                default:
                    long n = number(0, 9999);
                    return f -> n;
            }
        }

        Sum call(String s, int depth) {
            Test t = s.equals("if") ? test(depth) : null;
            if (t != null) {
                expect(",");
            }
            Sum a = sum(depth);
            expect(",");
            Sum b = sum(depth);
            expect(")");
            if (t != null) {
                return f -> t.of(f) ? a.of(f) : b.of(f);
            }
            return f -> s.equals("min") ? Math.min(a.of(f), b.of(f)) : Math.max(a.of(f), b.of(f));
        }
    }

    private World w = new World();
    private List<Integer> tape = new ArrayList<>();
    private int faultCode = 0;
    private int faultPlace = NONE;
    private final Deque<World> acts = new ArrayDeque<>();
    private long seed = 1;
    private List<Integer> told = new ArrayList<>();
    private int[] image = new int[0];
    private final int[] refused = new int[6];

    private int no(int what) {
        refused[what]++;
        return NONE;
    }

    private boolean nope(int what) {
        refused[what]++;
        return false;
    }

    int feed(int a, int b, int c, int d, int e) {
        if (tape.size() + 20 > 1600) {
            return no(0);
        }
        for (int n : new int[] {a, b, c, d, e}) {
            for (byte x : java.nio.ByteBuffer.allocate(4).putInt(n).array()) {
                tape.add(x & 255);
            }
        }
        return tape.size();
    }

    boolean end(int n) {
        if (n < 0 || n > tape.size()) {
            return nope(0);
        }
        tape = new ArrayList<>(tape.subList(0, n));
        return true;
    }

    private List<Integer> take() {
        List<Integer> old = tape;
        tape = new ArrayList<>();
        return old;
    }

    int year() {
        List<Integer> old = take();
        byte[] b = new byte[old.size()];
        for (int i = 0; i < b.length; i++) {
            b[i] = (byte) (int) old.get(i);
        }
        Text text = new Text(b);
        try {
            int count = text.all();
            w = text.w;
            acts.clear();
            told = new ArrayList<>();
            faultCode = 0;
            faultPlace = NONE;
            return count;
        } catch (Fault f) {
            faultCode = f.code;
            faultPlace = f.place;
            return no(1);
        }
    }

    int fault(int what) {
        return what == 0 ? faultCode : what == 1 ? faultPlace : NONE;
    }

    int has(int what) {
        switch (what) {
            case 0: return w.kinds.size();
            case 1: return w.tools.size();
            case 2: return w.hands.size();
            case 3: return w.jobs.size();
            case 4: return w.day;
            case 5: return w.fines;
            case 6: return (int) w.tools.stream().filter(t -> t.broken).count();
            case 7: return (int) w.tools.stream().filter(t -> t.held).count();
            case 8: return (int) w.jobs.stream().filter(j -> j.finished()).count();
            case 9: return (int) w.jobs.stream().filter(j -> w.lateness(j) > 0).count();
            case 10: return Math.min(60, w.kept.size());
            case 11: return acts.size();
            case 12: return (int) seed;
            default: return NONE;
        }
    }

    int letter(int kind, int which, int k) {
        if (kind < 0 || kind > 3 || k < 0 || k > 5) {
            return NONE;
        }
        for (Map.Entry<String, Integer> e : w.names.get(kind).entrySet()) {
            if (e.getValue() == which) {
                return k < e.getKey().length() ? e.getKey().charAt(k) - 96 : 0;
            }
        }
        return NONE;
    }

    private static boolean in(int k, List<?> list) {
        return k >= 0 && k < list.size();
    }

    int kind(int kind, int what) {
        if (!in(kind, w.kinds)) {
            return NONE;
        }
        Kind k = w.kinds.get(kind);
        int wait = 0;
        while ((w.day + wait) % k.round != k.rest) {
            wait++;
        }
        int bits = 0;
        for (int t = 0; t < w.tools.size(); t++) {
            bits += w.tools.get(t).kind == kind ? 1 << t : 0;
        }
        return what == 0 ? k.rest : what == 1 ? k.round : what == 2 ? bits : what == 3 ? (wait == 0 ? 1 : 0)
                : what == 4 ? wait : NONE;
    }

    int tool(int tool, int what) {
        if (!in(tool, w.tools)) {
            return NONE;
        }
        Tool t = w.tools.get(tool);
        return what == 0 ? t.kind : what == 1 ? t.worn : what == 2 ? (t.broken ? 1 : 0)
                : what == 3 ? (t.held ? 1 : 0) : NONE;
    }

    int knows(int hand, int tool) {
        return in(hand, w.hands) && in(tool, w.tools) ? w.hands.get(hand)[tool] : NONE;
    }

    int job(int job, int what) {
        if (!in(job, w.jobs)) {
            return NONE;
        }
        Job j = w.jobs.get(job);
        if (what >= 10 && what < 10 + j.steps.length) {
            return j.steps[what - 10][0];
        }
        if (what >= 20 && what < 20 + j.steps.length) {
            return j.steps[what - 20][1];
        }
        return what == 0 ? j.term : what == 1 ? j.steps.length : what == 2 ? j.done : what == 3 ? w.lateness(j) : NONE;
    }

    private List<Integer> byNumbers() {
        List<Integer> row = new ArrayList<>();
        for (int i = 0; i < w.jobs.size(); i++) {
            row.add(i);
        }
        return row;
    }

    private World run(World from, int n, List<Integer> row) {
        for (int i = 0; i < n; i++) {
            from.pass(false, row);
        }
        return from;
    }

    private boolean can(int n, int least, int most) {
        return n >= least && n <= most && w.day + n <= 999;
    }

    int later(int n, int job) {
        if (!can(n, 0, 100) || job != NONE && !in(job, w.jobs)) {
            return NONE;
        }
        World x = run(w.copy(), n, byNumbers());
        return job == NONE ? x.fines : x.jobs.get(job).done;
    }

    int done(int job) {
        if (!in(job, w.jobs)) {
            return NONE;
        }
        World x = w.copy();
        for (int n = 0; can(n, 0, 100); n++) {
            if (x.jobs.get(job).finished()) {
                return n;
            }
            x.pass(false, byNumbers());
        }
        return NONE;
    }

    int late(int n) {
        return can(n, 1, 100) ? run(w.copy(), n, byNumbers()).lateAll : NONE;
    }

    private void rows(List<Integer> begun, List<List<Integer>> all) {
        if (begun.size() == w.jobs.size()) {
            all.add(begun);
        }
        for (int j = 0; j < w.jobs.size(); j++) {
            if (!begun.contains(j)) {
                List<Integer> more = new ArrayList<>(begun);
                more.add(j);
                rows(more, all);
            }
        }
    }

    int order(int n, int k) {
        if (!can(n, 1, 30) || k != NONE && !in(k, w.jobs)) {
            return NONE;
        }
        List<List<Integer>> all = new ArrayList<>();
        rows(new ArrayList<>(), all);
        List<Integer> best = all.get(0);
        int least = Integer.MAX_VALUE;
        for (List<Integer> row : all) {
            int late = run(w.copy(), n, row).lateAll;
            if (late < least) {
                least = late;
                best = row;
            }
        }
        return k == NONE ? least : best.get(k);
    }

    int moved(int n, int what) {
        if (!can(n, 1, 60) || what < 0 || what > 2) {
            return NONE;
        }
        int without = late(n);
        int[] best = null;
        for (int k = 0; k < w.kinds.size(); k++) {
            for (int d = 0; d < w.kinds.get(k).round; d++) {
                World x = w.copy();
                x.kinds.get(k).rest = d;
                int gain = without - run(x, n, byNumbers()).lateAll;
                if (d != w.kinds.get(k).rest && gain > 0 && (best == null || gain > best[2])) {
                    best = new int[] {k, d, gain};
                }
            }
        }
        return best == null ? NONE : best[what];
    }

    private void paths(List<Integer> path, int price, int goal, List<List<Integer>> all) {
        int last = path.get(path.size() - 1);
        if (last == goal) {
            List<Integer> whole = new ArrayList<>(List.of(price, path.size() - 1));
            whole.addAll(path.subList(1, path.size()));
            all.add(whole);
            return;
        }
        for (int k = 0; k < w.kinds.size(); k++) {
            if (w.serves[k][last] > 0 && !path.contains(k)) {
                List<Integer> more = new ArrayList<>(path);
                more.add(k);
                paths(more, price + w.serves[k][last], goal, all);
            }
        }
    }

    int makeshift(int kind, int other, int k) {
        if (!in(kind, w.kinds) || !in(other, w.kinds)) {
            return NONE;
        }
        List<List<Integer>> all = new ArrayList<>();
        paths(List.of(other), 0, kind, all);
        if (all.isEmpty()) {
            return NONE;
        }
        all.sort((a, b) -> {
            for (int i = 0; i < Math.min(a.size(), b.size()); i++) {
                if (!a.get(i).equals(b.get(i))) {
                    return a.get(i) - b.get(i);
                }
            }
            return 0;
        });
        List<Integer> best = all.get(0);
        return k == NONE ? best.get(0) : k >= 0 && k < best.get(1) ? best.get(k + 2) : NONE;
    }

    private boolean doneHolding(int job, int n, int bits) {
        World x = w.copy();
        for (int t = 0; t < x.tools.size(); t++) {
            x.tools.get(t).held |= (bits >> t & 1) == 1;
        }
        return run(x, n, byNumbers()).jobs.get(job).finished();
    }

    private int heldBits() {
        int bits = 0;
        for (int t = 0; t < w.tools.size(); t++) {
            bits |= w.tools.get(t).held ? 1 << t : 0;
        }
        return bits;
    }

    int hangs(int job, int n) {
        if (!in(job, w.jobs) || !can(n, 1, 60)) {
            return NONE;
        }
        int bits = 0;
        for (int t = 0; t < w.tools.size(); t++) {
            if (!w.jobs.get(job).finished() && !w.tools.get(t).held && doneHolding(job, n, 0)
                    && !doneHolding(job, n, 1 << t)) {
                bits |= 1 << t;
            }
        }
        return bits;
    }

    int guard(int job, int n) {
        if (!in(job, w.jobs) || !can(n, 1, 30)) {
            return NONE;
        }
        int best = NONE;
        for (int bits = (1 << w.tools.size()) - 1; bits >= 0; bits--) {
            int size = Integer.bitCount(bits);
            if (size <= 3 && (bits & heldBits()) == 0 && (best == NONE || size <= Integer.bitCount(best))
                    && !doneHolding(job, n, bits)) {
                best = bits;
            }
        }
        return best;
    }

    int loan(int hand, int what) {
        int lenders = Math.min(w.hands.size(), w.tools.size());
        if (hand < 0 || hand >= lenders || what < 0 || what > 2) {
            return NONE;
        }
        List<Integer> left = new ArrayList<>();
        for (int h = 0; h < lenders; h++) {
            left.add(h);
        }
        for (int round = 1;; round++) {
            Map<Integer, Integer> to = new HashMap<>();
            for (int h : left) {
                int most = NONE;
                for (int t : left) {
                    most = Math.max(most, w.hands.get(h)[t]);
                }
                for (int t : left) {
                    if (w.hands.get(h)[t] == most && !to.containsKey(h)) {
                        to.put(h, t);
                    }
                }
                if (w.hands.get(h)[h] == most) {
                    to.put(h, h);
                }
            }
            List<Integer> gone = new ArrayList<>();
            for (int h : left) {
                List<Integer> ring = new ArrayList<>();
                for (int at = h; !ring.contains(at); at = to.get(at)) {
                    ring.add(at);
                }
                if (to.get(ring.get(ring.size() - 1)) == h) {
                    gone.add(h);
                    if (h == hand) {
                        return what == 0 ? to.get(h) : what == 1 ? round : ring.size();
                    }
                }
            }
            left.removeAll(gone);
        }
    }

    int shavings() {
        List<Integer> rows = take();
        boolean sound = rows.size() >= 2 && rows.size() <= 32 && rows.size() % 2 == 0;
        for (int i = 0; sound && i < rows.size(); i += 2) {
            sound = rows.get(i) < w.tools.size() && rows.get(i + 1) <= 1;
        }
        if (!sound) {
            return no(5);
        }
        told = new ArrayList<>();
        World x = w.copy();
        for (int k = 0; k <= 60 && w.day + k < 999; k++) {
            x.pass(false, byNumbers());
            boolean fits = true;
            for (int i = 0; i < rows.size(); i += 2) {
                fits &= x.toolsToday.contains(rows.get(i)) == (rows.get(i + 1) == 1);
            }
            if (fits) {
                told.add(k);
            }
        }
        return told.size();
    }

    int when(int k) {
        return in(k, told) ? told.get(k) : NONE;
    }

    private void act() {
        acts.push(w.copy());
        if (acts.size() > 20) {
            acts.removeLast();
        }
    }

    int days(int n) {
        if (!can(n, 1, 100)) {
            return no(2);
        }
        act();
        int before = w.stepsAll;
        return run(w, n, byNumbers()).stepsAll - before;
    }

    int chance(int n) {
        if (!can(n, 1, 100)) {
            return no(2);
        }
        act();
        int frosts = 0;
        for (int i = 0; i < n; i++) {
            seed = (1103515245L * seed + 12345) % (1L << 31);
            boolean frosty = seed / 64 % 100 < w.frost;
            frosts += frosty ? 1 : 0;
            w.pass(frosty, byNumbers());
        }
        return frosts;
    }

    boolean hold(int tool, int held) {
        if (!in(tool, w.tools) || held < 0 || held > 1 || w.tools.get(tool).held == (held == 1)) {
            return nope(3);
        }
        act();
        w.tools.get(tool).held = held == 1;
        return true;
    }

    boolean swap(int first, int second) {
        if (!in(first, w.hands) || !in(second, w.hands) || first == second) {
            return nope(3);
        }
        act();
        java.util.Collections.swap(w.hands, first, second);
        return true;
    }

    boolean due(int job, int day) {
        if (!in(job, w.jobs) || day < 0 || day > 999 || w.jobs.get(job).term == day) {
            return nope(3);
        }
        act();
        w.jobs.get(job).term = day;
        return true;
    }

    boolean undo() {
        if (acts.isEmpty()) {
            return nope(4);
        }
        w = acts.pop();
        return true;
    }

    boolean seed(int s) {
        if (s < 0) {
            return nope(5);
        }
        seed = s;
        return true;
    }

    int kept(int k, int what) {
        List<int[]> last = w.kept.subList(Math.max(0, w.kept.size() - 60), w.kept.size());
        return in(k, last) && what >= 0 && what <= 3 ? last.get(k)[what] : NONE;
    }

    private int[] written() {
        List<Integer> b = new ArrayList<>(Arrays.asList(w.day / 256, w.day % 256, w.fines / 256, w.fines % 256));
        for (Tool t : w.tools) {
            b.addAll(List.of(t.worn, t.broken ? 1 : 0, t.held ? 1 : 0));
        }
        for (int[] h : w.hands) {
            for (int t = 0; t < w.tools.size(); t++) {
                b.add(h[t]);
            }
        }
        for (Job j : w.jobs) {
            b.addAll(List.of(j.done, j.term / 256, j.term % 256));
        }
        int c = 157;
        for (int x : b) {
            c = (5 * c + x) % 251;
        }
        b.add(c);
        return b.stream().mapToInt(x -> x).toArray();
    }

    int image() {
        image = written();
        return image.length;
    }

    int octet(int k) {
        return k >= 0 && k < image.length ? image[k] : NONE;
    }

    /** Sets a copy as the bytes tell, and asks whether that writes the same bytes and keeps the bounds. */
    boolean on() {
        List<Integer> b = take();
        World old = w;
        if (b.size() != written().length) {
            return nope(5);
        }
        World x = w.copy();
        int at = 4;
        x.day = b.get(0) * 256 + b.get(1);
        x.fines = b.get(2) * 256 + b.get(3);
        boolean sound = x.day <= 999 && x.fines <= 9999;
        for (Tool t : x.tools) {
            t.worn = b.get(at);
            t.broken = b.get(at + 1) == 1;
            t.held = b.get(at + 2) == 1;
            sound &= t.worn <= 100;
            at += 3;
        }
        for (int[] h : x.hands) {
            for (int t = 0; t < x.tools.size(); t++) {
                h[t] = b.get(at++);
                sound &= h[t] <= 9;
            }
        }
        for (Job j : x.jobs) {
            j.done = b.get(at);
            j.term = b.get(at + 1) * 256 + b.get(at + 2);
            sound &= j.done <= j.steps.length && j.term <= 999;
            at += 3;
        }
        x.kept.clear();
        w = x;
        sound = sound && Arrays.equals(written(), b.stream().mapToInt(v -> v).toArray());
        if (!sound) {
            w = old;
            return nope(5);
        }
        acts.clear();
        return true;
    }

    int status(int what) {
        return what >= 0 && what < 6 ? refused[what] : NONE;
    }
}
