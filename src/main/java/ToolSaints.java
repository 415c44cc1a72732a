import java.util.Arrays;

/** A holiday for tools. What each call promises is told in ../shared/DOC.md. */
public final class ToolSaints {
    public static final int NONE = -1;

    private static final int SORT_KIND = 0;
    private static final int SORT_TOOL = 1;
    private static final int SORT_HAND = 2;
    private static final int SORT_JOB = 3;
    private static final int SORTS = 4;
    private static final int KINDS_MOST = 6;
    private static final int TOOLS_MOST = 8;
    private static final int HANDS_MOST = 6;
    private static final int JOBS_MOST = 6;
    private static final int STEPS_MOST = 4;
    private static final int NAMES_MOST = 8;
    private static final int LETTERS_MOST = 6;
    private static final int STATEMENTS_MOST = 80;
    private static final int TAPE_MOST = 1600;
    private static final int LAST_DAY = 999;
    private static final int FINES_MOST = 9999;
    private static final int WORN_MOST = 100;
    private static final int KNOWN_MOST = 9;
    private static final int PASS_MOST = 100;
    private static final int ORDER_MOST = 30;
    private static final int MOVED_MOST = 60;
    private static final int HANGS_MOST = 60;
    private static final int GUARD_MOST = 30;
    private static final int GUARD_TOOLS_MOST = 3;
    private static final int SHAVING_DAY_MOST = 60;
    private static final int SHAVING_BYTES_MOST = 32;
    private static final int REFUSALS = 6;

    private final int[] tape = new int[TAPE_MOST];
    private int tapeLength;
    private Year year = new Year();
    private Year spare = new Year();
    private final Yard now = new Yard();
    private final Past past = new Past();
    private final Shop shop = new Shop(year, now, past);
    private final Ahead ahead = new Ahead(year, now, past);
    private final Tokens tokens = new Tokens(tape);
    private final YearReader reader = new YearReader(tokens, spare);
    private final Loans loans = new Loans();
    private final Picture picture = new Picture();
    private final int[] shavingDays = new int[SHAVING_DAY_MOST + 1];
    private int shavingCount;
    private final int[] refused = new int[REFUSALS];
    private int seedNow = 1;

    public ToolSaints() {
    }

    public int feed(int a, int b, int c, int d, int e) {
        if (tapeLength + 20 > TAPE_MOST) {
            return refuse(0);
        }
        putOnTape(a);
        putOnTape(b);
        putOnTape(c);
        putOnTape(d);
        putOnTape(e);
        return tapeLength;
    }

    public boolean end(int n) {
        if (n < 0 || n > tapeLength) {
            return turnDown(0);
        }
        tapeLength = n;
        return true;
    }

    public int year() {
        int length = takeTape();
        int statements = reader.read(spare, length);
        if (statements == NONE) {
            return refuse(1);
        }
        Year old = year;
        year = spare;
        spare = old;
        now.start(year);
        past.clear();
        shavingCount = 0;
        ahead.turnTo(year);
        return statements;
    }

    public int fault(int what) {
        switch (what) {
            case 0:
                return tokens.faultCode;
            case 1:
                return tokens.faultPlace;
            default:
                return NONE;
        }
    }

    public int has(int what) {
        switch (what) {
            case 0:
            case 1:
            case 2:
            case 3:
                return year.count(what);
            case 4:
                return now.day;
            case 5:
                return now.fines;
            case 6:
                return Integer.bitCount(now.broken);
            case 7:
                return Integer.bitCount(now.held);
            case 8:
                return jobsDone();
            case 9:
                return jobsLate();
            case 10:
                return now.told;
            case 11:
                return past.saved;
            case 12:
                return seedNow;
            default:
                return NONE;
        }
    }

    public int letter(int kind, int which, int k) {
        if (!year.holds(kind, which) || k < 0 || k >= LETTERS_MOST) {
            return NONE;
        }
        return Tokens.letterOf(year.nameOf(kind, which), k);
    }

    public int kind(int kind, int what) {
        if (!year.holds(SORT_KIND, kind)) {
            return NONE;
        }
        switch (what) {
            case 0:
                return year.restDay[kind];
            case 1:
                return year.round[kind];
            case 2:
                return year.toolsOf(kind);
            case 3:
                return year.daysToRest(kind, now.day) == 0 ? 1 : 0;
            case 4:
                return year.daysToRest(kind, now.day);
            default:
                return NONE;
        }
    }

    public int tool(int tool, int what) {
        if (!year.holds(SORT_TOOL, tool)) {
            return NONE;
        }
        switch (what) {
            case 0:
                return year.toolKind[tool];
            case 1:
                return now.worn[tool];
            case 2:
                return now.broken >> tool & 1;
            case 3:
                return now.held >> tool & 1;
            default:
                return NONE;
        }
    }

    public int knows(int hand, int tool) {
        if (!year.holds(SORT_HAND, hand) || !year.holds(SORT_TOOL, tool)) {
            return NONE;
        }
        return now.knownBy(hand, tool);
    }

    public int job(int job, int what) {
        if (!year.holds(SORT_JOB, job)) {
            return NONE;
        }
        switch (what) {
            case 0:
                return now.term[job];
            case 1:
                return year.stepCount[job];
            case 2:
                return now.stepsDone[job];
            case 3:
                return now.daysLate(job, year);
            default:
                return what < 20 ? year.kindOfStep(job, what - 10) : year.hoursOfStep(job, what - 20);
        }
    }

    public int later(int n, int job) {
        boolean asked = job == NONE || year.holds(SORT_JOB, job);
        if (!asked || n != 0 && !canPass(n, PASS_MOST)) {
            return NONE;
        }
        return ahead.behind(n, job);
    }

    public int done(int job) {
        if (!year.holds(SORT_JOB, job)) {
            return NONE;
        }
        return ahead.daysUntilDone(job, Math.min(PASS_MOST, LAST_DAY - now.day));
    }

    public int late(int n) {
        return canPass(n, PASS_MOST) ? ahead.latenessBehind(n) : NONE;
    }

    public int order(int n, int k) {
        boolean asked = k == NONE || year.holds(SORT_JOB, k);
        if (!asked || !canPass(n, ORDER_MOST)) {
            return NONE;
        }
        ahead.findOrder(n);
        return k == NONE ? ahead.orderLateness : ahead.bestRow[k];
    }

    public int moved(int n, int what) {
        if (!canPass(n, MOVED_MOST)) {
            return NONE;
        }
        ahead.findMove(n);
        if (ahead.moveKind == NONE) {
            return NONE;
        }
        switch (what) {
            case 0:
                return ahead.moveKind;
            case 1:
                return ahead.moveDay;
            case 2:
                return ahead.moveGain;
            default:
                return NONE;
        }
    }

    public int makeshift(int kind, int other, int k) {
        if (!year.holds(SORT_KIND, kind) || !year.holds(SORT_KIND, other) || k < NONE) {
            return NONE;
        }
        year.measurePathsTo(kind);
        return k == NONE ? year.pathPrice(other) : year.pathKind(kind, other, k);
    }

    public int hangs(int job, int n) {
        if (!year.holds(SORT_JOB, job) || !canPass(n, HANGS_MOST)) {
            return NONE;
        }
        return ahead.hangsOn(job, n);
    }

    public int guard(int job, int n) {
        if (!year.holds(SORT_JOB, job) || !canPass(n, GUARD_MOST)) {
            return NONE;
        }
        return ahead.guardOf(job, n);
    }

    public int loan(int hand, int what) {
        if (!year.holds(SORT_HAND, hand) || !year.holds(SORT_TOOL, hand)) {
            return NONE;
        }
        loans.settle(year, now);
        switch (what) {
            case 0:
                return loans.got[hand];
            case 1:
                return loans.round[hand];
            case 2:
                return loans.ring[hand];
            default:
                return NONE;
        }
    }

    public int shavings() {
        int length = takeTape();
        if (!isShavings(length)) {
            return refuse(5);
        }
        int most = Math.min(SHAVING_DAY_MOST, LAST_DAY - 1 - now.day);
        shavingCount = 0;
        ahead.restart();
        for (int day = 0; day <= most && day <= SHAVING_DAY_MOST; day++) {
            int worked = ahead.toolsOfNextDay();
            if (fitsShavings(length, worked) && shavingCount < shavingDays.length) {
                shavingDays[shavingCount] = day;
                shavingCount++;
            }
        }
        return shavingCount;
    }

    public int when(int k) {
        return k >= 0 && k < shavingCount && k < shavingDays.length ? shavingDays[k] : NONE;
    }

    public int days(int n) {
        if (!canPass(n, PASS_MOST)) {
            return refuse(2);
        }
        beginAct();
        shop.open(year, now, true);
        for (int i = 0; i < n; i++) {
            shop.passDay(0);
        }
        return shop.worked;
    }

    public int chance(int n) {
        if (!canPass(n, PASS_MOST)) {
            return refuse(2);
        }
        beginAct();
        shop.open(year, now, true);
        int frosts = 0;
        for (int i = 0; i < n; i++) {
            int frost = draw(100) < year.frost ? 1 : 0;
            frosts += frost;
            shop.passDay(frost);
        }
        return frosts;
    }

    public boolean hold(int tool, int held) {
        boolean asked = year.holds(SORT_TOOL, tool) && (held == 0 || held == 1);
        if (!asked || (now.held >> tool & 1) == held) {
            return turnDown(3);
        }
        beginAct();
        now.held ^= 1 << tool;
        return true;
    }

    public boolean swap(int first, int second) {
        if (!year.holds(SORT_HAND, first) || !year.holds(SORT_HAND, second) || first == second) {
            return turnDown(3);
        }
        beginAct();
        now.swapHands(first, second);
        return true;
    }

    public boolean due(int job, int day) {
        boolean asked = year.holds(SORT_JOB, job) && day >= 0 && day <= LAST_DAY;
        if (!asked || now.term[job] == day) {
            return turnDown(3);
        }
        beginAct();
        now.term[job] = day;
        return true;
    }

    public boolean undo() {
        if (!past.restore(now)) {
            return turnDown(4);
        }
        ahead.forget();
        return true;
    }

    public boolean seed(int seed) {
        if (seed < 0) {
            return turnDown(5);
        }
        seedNow = seed;
        return true;
    }

    public int kept(int k, int what) {
        if (k < 0 || k >= now.told) {
            return NONE;
        }
        return past.keptPart(k, what);
    }

    public int image() {
        return picture.write(year, now);
    }

    public int octet(int k) {
        return k >= 0 && k < picture.length && k < picture.bytes.length ? picture.bytes[k] : NONE;
    }

    public boolean on() {
        int length = takeTape();
        if (!picture.read(year, tape, length)) {
            return turnDown(5);
        }
        now.copy(picture.told);
        past.clear();
        ahead.forget();
        return true;
    }

    public int status(int what) {
        return what >= 0 && what < REFUSALS ? refused[what] : NONE;
    }

    private int refuse(int what) {
        if (what >= 0 && what < REFUSALS) {
            refused[what]++;
        }
        return NONE;
    }

    private boolean turnDown(int what) {
        refuse(what);
        return false;
    }

    private void putOnTape(int number) {
        for (int shift = 24; shift >= 0; shift -= 8) {
            if (tapeLength < TAPE_MOST) {
                tape[tapeLength] = number >> shift & 255;
                tapeLength++;
            }
        }
    }

    /** The tape goes whatever it tells; its bytes stay readable until the next feed. */
    private int takeTape() {
        int length = tapeLength;
        tapeLength = 0;
        return length;
    }

    private boolean canPass(int n, int most) {
        return n >= 1 && n <= most && now.day + n <= LAST_DAY;
    }

    private int jobsDone() {
        int count = 0;
        for (int job = 0; job < year.count(SORT_JOB); job++) {
            count += now.isFinished(job, year) ? 1 : 0;
        }
        return count;
    }

    private int jobsLate() {
        int count = 0;
        for (int job = 0; job < year.count(SORT_JOB); job++) {
            count += now.daysLate(job, year) > 0 ? 1 : 0;
        }
        return count;
    }

    private boolean isShavings(int length) {
        if (length < 2 || length > SHAVING_BYTES_MOST || length % 2 != 0) {
            return false;
        }
        for (int i = 0; i + 1 < length; i += 2) {
            if (!year.holds(SORT_TOOL, tape[i]) || tape[i + 1] > 1) {
                return false;
            }
        }
        return true;
    }

    private boolean fitsShavings(int length, int worked) {
        for (int i = 0; i + 1 < length && i + 1 < TAPE_MOST; i += 2) {
            if ((worked >> tape[i] & 1) != tape[i + 1]) {
                return false;
            }
        }
        return true;
    }

    private void beginAct() {
        past.save(now);
        ahead.forget();
    }

    private int draw(int m) {
        seedNow = (int) ((1103515245L * seedNow + 12345L) & 0x7fffffffL);
        return m > 0 ? seedNow / 64 % m : 0;
    }

    /** What a text tells: all that no DAY changes. */
    private static final class Year {
        private static final int UNREACHED = 1000000;
        // A path's length is price * 8 + kinds, so that of like prices the fewest kinds win.
        private static final int PRICE_WEIGHT = 8;

        final int[] names = new int[SORTS * NAMES_MOST];
        final int[] counts = new int[SORTS];
        final int[] restDay = new int[KINDS_MOST];
        final int[] round = new int[KINDS_MOST];
        final int[] toolKind = new int[TOOLS_MOST];
        final int[] toolWorn = new int[TOOLS_MOST];
        final int[] known = new int[HANDS_MOST * TOOLS_MOST];
        final int[] term = new int[JOBS_MOST];
        final int[] stepCount = new int[JOBS_MOST];
        final int[] stepKind = new int[JOBS_MOST * STEPS_MOST];
        final int[] stepHours = new int[JOBS_MOST * STEPS_MOST];
        final int[] price = new int[KINDS_MOST * KINDS_MOST];
        final int[] pathLength = new int[KINDS_MOST];
        final Code code = new Code();
        int breaks = 100;
        int smithDay = 0;
        int smithRound = 9;
        int fine = 5;
        int frost = 0;

        Year() {
        }

        void clear() {
            Arrays.fill(counts, 0);
            Arrays.fill(known, 0);
            Arrays.fill(price, 0);
            code.clear();
            breaks = 100;
            smithDay = 0;
            smithRound = 9;
            fine = 5;
            frost = 0;
        }

        int count(int sort) {
            return sort >= 0 && sort < SORTS ? counts[sort] : 0;
        }

        boolean holds(int sort, int which) {
            return sort >= 0 && sort < SORTS && which >= 0 && which < counts[sort];
        }

        boolean isFull(int sort) {
            switch (sort) {
                case SORT_KIND:
                    return count(sort) >= KINDS_MOST;
                case SORT_TOOL:
                    return count(sort) >= TOOLS_MOST;
                case SORT_HAND:
                    return count(sort) >= HANDS_MOST;
                default:
                    return count(sort) >= JOBS_MOST;
            }
        }

        int nameOf(int sort, int which) {
            return holds(sort, which) && which < NAMES_MOST ? names[sort * NAMES_MOST + which] : 0;
        }

        int find(int sort, int word) {
            for (int which = 0; which < count(sort) && which < NAMES_MOST; which++) {
                if (names[sort * NAMES_MOST + which] == word) {
                    return which;
                }
            }
            return NONE;
        }

        boolean isGiven(int word) {
            for (int sort = 0; sort < SORTS; sort++) {
                if (find(sort, word) != NONE) {
                    return true;
                }
            }
            return false;
        }

        int give(int sort, int word) {
            if (sort < 0 || sort >= SORTS || isFull(sort)) {
                return NONE;
            }
            int which = counts[sort];
            names[sort * NAMES_MOST + which] = word;
            counts[sort] = which + 1;
            return which;
        }

        int toolsOf(int kind) {
            int bits = 0;
            for (int tool = 0; tool < count(SORT_TOOL); tool++) {
                bits |= toolKind[tool] == kind ? 1 << tool : 0;
            }
            return bits;
        }

        int daysToRest(int kind, int day) {
            return holds(SORT_KIND, kind) && round[kind] > 0
                    ? Math.floorMod(restDay[kind] - day, round[kind]) : NONE;
        }

        boolean hasStep(int job, int step) {
            boolean there = job >= 0 && job < counts[SORT_JOB];
            return there && step >= 0 && step < stepCount[job] && step < STEPS_MOST;
        }

        int kindOfStep(int job, int step) {
            return hasStep(job, step) ? stepKind[job * STEPS_MOST + step] : NONE;
        }

        int hoursOfStep(int job, int step) {
            return hasStep(job, step) ? stepHours[job * STEPS_MOST + step] : NONE;
        }

        /** From each KIND the length of its best path to the one that serves at last. */
        void measurePathsTo(int last) {
            Arrays.fill(pathLength, UNREACHED);
            if (holds(SORT_KIND, last)) {
                pathLength[last] = 0;
            }
            for (int turn = 0; turn < KINDS_MOST; turn++) {
                for (int served = 0; served < count(SORT_KIND); served++) {
                    for (int server = 0; server < count(SORT_KIND); server++) {
                        pathLength[served] = Math.min(pathLength[served], lengthOver(served, server));
                    }
                }
            }
        }

        private int lengthOver(int served, int server) {
            int cost = price[server * KINDS_MOST + served];
            return cost == 0 ? UNREACHED : cost * PRICE_WEIGHT + 1 + pathLength[server];
        }

        int pathPrice(int from) {
            return holds(SORT_KIND, from) && pathLength[from] < UNREACHED
                    ? pathLength[from] / PRICE_WEIGHT : NONE;
        }

        int pathKind(int last, int from, int k) {
            int at = from;
            for (int i = 0; i < KINDS_MOST && i <= k; i++) {
                at = nextOnPath(at, last);
                if (at == NONE) {
                    return NONE;
                }
            }
            return k < KINDS_MOST ? at : NONE;
        }

        private int nextOnPath(int at, int last) {
            if (at == last || pathPrice(at) == NONE) {
                return NONE;
            }
            for (int server = 0; server < count(SORT_KIND); server++) {
                if (lengthOver(at, server) == pathLength[at]) {
                    return server;
                }
            }
            return NONE;
        }
    }

    /** The TEST of may and the SUM of wears, as operations on a stack. */
    private static final class Code {
        static final int NUMBER = 0;
        static final int FACT = 1;
        static final int NOT = 2;
        static final int IF = 3;
        static final int PLUS = 4;
        static final int MINUS = 5;
        static final int TIMES = 6;
        static final int BY = 7;
        static final int LEFT = 8;
        static final int MIN = 9;
        static final int MAX = 10;
        static final int LESS = 11;
        static final int MORE = 12;
        static final int SAME = 13;
        static final int AND = 14;
        static final int OR = 15;

        static final int REST = 0;
        static final int WORN = 1;
        static final int KNOWS = 2;
        static final int HOURS = 3;
        static final int DAY = 4;
        static final int LATE = 5;
        static final int FROST = 6;
        static final int USED = 7;
        static final int FACTS = 8;

        private static final long RESULT_MOST = 1000000L;
        private static final int OPERATION_BITS = 5;
        // Seven open brackets with at most five values waiting in each stay far below this.
        private static final int STACK_MOST = 64;

        private final int[] operations = new int[TAPE_MOST];
        private final int[] stack = new int[STACK_MOST];
        int size;
        int mayFrom;
        int mayTo;
        int wearsFrom;
        int wearsTo;

        Code() {
        }

        void clear() {
            size = 0;
            mayFrom = 0;
            mayTo = 0;
            wearsFrom = 0;
            wearsTo = 0;
        }

        boolean put(int operation, int operand) {
            if (size < operations.length) {
                operations[size] = operand << OPERATION_BITS | operation;
                size++;
            }
            return true;
        }

        boolean hasMay() {
            return mayTo > mayFrom;
        }

        boolean hasWears() {
            return wearsTo > wearsFrom;
        }

        /** What operations from .. to leave on the stack; a TEST that holds leaves 1, else 0. */
        int run(int from, int to, int[] facts) {
            int top = 0;
            for (int i = from; i < to && i >= 0 && i < operations.length && top < STACK_MOST; i++) {
                int operation = operations[i] & (1 << OPERATION_BITS) - 1;
                int operand = operations[i] >> OPERATION_BITS;
                if (operation == NUMBER) {
                    stack[top] = operand;
                    top++;
                } else if (operation == FACT && operand >= 0 && operand < facts.length) {
                    stack[top] = facts[operand];
                    top++;
                } else if (operation == NOT && top >= 1) {
                    stack[top - 1] = 1 - stack[top - 1];
                } else if (operation == IF && top >= 3) {
                    top -= 2;
                    stack[top - 1] = stack[top - 1] != 0 ? stack[top] : stack[top + 1];
                } else if (operation >= MIN && top >= 2) {
                    top--;
                    stack[top - 1] = compare(operation, stack[top - 1], stack[top]);
                } else if (top >= 2) {
                    top--;
                    stack[top - 1] = calculate(operation, stack[top - 1], stack[top]);
                }
            }
            return top > 0 ? stack[0] : 0;
        }

        private static int compare(int operation, int a, int b) {
            switch (operation) {
                case MIN:
                    return a < b ? a : b;
                case MAX:
                    return a > b ? a : b;
                case LESS:
                    return a < b ? 1 : 0;
                case MORE:
                    return a > b ? 1 : 0;
                case SAME:
                    return a == b ? 1 : 0;
                case AND:
                    return a & b;
                default:
                    return a | b;
            }
        }

        private static int calculate(int operation, long a, long b) {
            long result = 0;
            if (operation == PLUS) {
                result = a + b;
            } else if (operation == MINUS) {
                result = a - b;
            } else if (operation == TIMES) {
                result = a * b;
            } else if (b != 0) {
                boolean cutUpward = a % b != 0 && a < 0 != b < 0;
                long quotient = cutUpward ? a / b - 1 : a / b;
                result = operation == BY ? quotient : a - b * quotient;
            }
            return (int) (result > RESULT_MOST ? RESULT_MOST : result < -RESULT_MOST ? -RESULT_MOST : result);
        }
    }

    /** Cuts a text into words, numbers and signs, one at a time, and holds its FAULT. */
    private static final class Tokens {
        static final int TEXT_END = 0;
        static final int WORD = 1;
        static final int NUMBER = 2;
        static final int SIGN = 3;
        // Too long, or side by side with a word or number: fits nowhere.
        static final int WRONG = 4;

        static final int KIND = 0;
        static final int RESTS = 1;
        static final int OF = 2;
        static final int TOOL = 3;
        static final int IS = 4;
        static final int WORN = 5;
        static final int HAND = 6;
        static final int KNOWS = 7;
        static final int JOB = 8;
        static final int BY = 9;
        static final int DOES = 10;
        static final int SERVES = 11;
        static final int FOR = 12;
        static final int AT = 13;
        static final int MAY = 14;
        static final int WEARS = 15;
        static final int BREAKS = 16;
        static final int SMITH = 17;
        static final int FINE = 18;
        static final int FROST = 19;
        static final int REST = 20;
        static final int HOURS = 21;
        static final int DAY = 22;
        static final int LATE = 23;
        static final int USED = 24;
        static final int IF = 25;
        static final int OR = 26;
        static final int AND = 27;
        static final int NOT = 28;
        static final int ALL = 29;
        static final int MIN = 30;
        static final int MAX = 31;
        private static final int OWN_WORDS = 32;
        // In the order of the numbers above.
        private static final String OWN_TEXT = "kind rests of tool is worn hand knows job by does serves for at may wears breaks smith fine frost rest hours day late used if or and not all min max ";

        private static final int LETTER_BITS = 5;
        private static final int DIGITS_MOST = 4;

        private final int[] text;
        private final int[] ownWords = new int[OWN_WORDS];
        private int length;
        private int at;
        int type;
        int start;
        // Where a FAULT 1 of this token is.
        int place;
        // A word's letters, a number's worth, a sign's byte.
        int value;
        // Which OWN WORD it is, or NONE.
        int own = NONE;
        int faultCode;
        int faultPlace = NONE;

        Tokens(int[] text) {
            this.text = text;
            int word = 0;
            int letters = 0;
            int count = 0;
            for (int i = 0; i < OWN_TEXT.length(); i++) {
                char c = OWN_TEXT.charAt(i);
                if (c != ' ') {
                    word = withLetter(word, letters, c);
                    letters++;
                } else if (count < OWN_WORDS) {
                    ownWords[count] = word;
                    count++;
                    word = 0;
                    letters = 0;
                }
            }
        }

        static int letterOf(int word, int k) {
            return k >= 0 && k < LETTERS_MOST ? word >> (LETTERS_MOST - 1 - k) * LETTER_BITS & 31 : 0;
        }

        private static int withLetter(int word, int k, int letter) {
            return word | letter - 'a' + 1 << (LETTERS_MOST - 1 - k) * LETTER_BITS;
        }

        void begin(int textLength) {
            length = Math.max(0, Math.min(textLength, text.length));
            at = 0;
            type = SIGN;
            faultCode = 0;
            faultPlace = NONE;
            advance();
        }

        /** Always false, so that a reading that fails can end with it. */
        boolean fail(int code, int where) {
            faultCode = code;
            faultPlace = where;
            return false;
        }

        boolean failHere() {
            return fail(1, place);
        }

        void advance() {
            int last = at;
            boolean needsBlank = type == WORD || type == NUMBER;
            skipBlanks();
            start = at;
            place = at;
            own = NONE;
            int first = byteAt(at);
            if (first == NONE) {
                type = TEXT_END;
            } else if (isLetter(first)) {
                readWord();
            } else if (isDigit(first)) {
                readNumber();
            } else {
                type = SIGN;
                value = first;
                at++;
            }
            if (needsBlank && start == last && (isLetter(first) || isDigit(first))) {
                type = WRONG;
                place = start;
            }
        }

        private void skipBlanks() {
            for (int i = 0; i < TAPE_MOST && (byteAt(at) == ' ' || byteAt(at) == '\n'); i++) {
                at++;
            }
        }

        private void readWord() {
            type = WORD;
            value = 0;
            for (int i = 0; i < LETTERS_MOST && isLetter(byteAt(at)); i++) {
                value = withLetter(value, i, byteAt(at));
                at++;
            }
            own = ownNumber(value);
            refuseIf(isLetter(byteAt(at)));
        }

        private void readNumber() {
            type = NUMBER;
            value = 0;
            for (int i = 0; i < DIGITS_MOST && isDigit(byteAt(at)); i++) {
                value = value * 10 + byteAt(at) - '0';
                at++;
            }
            refuseIf(isDigit(byteAt(at)));
        }

        private void refuseIf(boolean tooLong) {
            if (tooLong) {
                type = WRONG;
                place = at;
            }
        }

        private int ownNumber(int word) {
            for (int i = 0; i < OWN_WORDS; i++) {
                if (ownWords[i] == word) {
                    return i;
                }
            }
            return NONE;
        }

        private int byteAt(int where) {
            return where >= 0 && where < length && where < text.length ? text[where] : NONE;
        }

        private static boolean isLetter(int c) {
            return c >= 'a' && c <= 'z';
        }

        private static boolean isDigit(int c) {
            return c >= '0' && c <= '9';
        }

        /** Any letter will do, too long a word or without its blank too: a FAULT 6 behind the 4th STEP. */
        boolean startsStep() {
            return isLetter(byteAt(start));
        }

        boolean isWord(int word) {
            return type == WORD && own == word;
        }

        boolean isSign(int sign) {
            return type == SIGN && value == sign;
        }

        boolean takeWord(int word) {
            if (!isWord(word)) {
                return failHere();
            }
            advance();
            return true;
        }

        boolean takeSign(int sign) {
            if (!isSign(sign)) {
                return failHere();
            }
            advance();
            return true;
        }

        /** The number, or NONE with a FAULT. */
        int takeNumber(int least, int most) {
            if (type != NUMBER) {
                failHere();
                return NONE;
            }
            if (value < least || value > most) {
                fail(4, start);
                return NONE;
            }
            int number = value;
            advance();
            return number;
        }
    }

    /** Reads a TEST or a SUM into code. */
    private static final class RuleReader {
        private static final int OPEN_MOST = 7;

        private final Tokens tokens;
        private Code code;
        private boolean inMay;

        RuleReader(Tokens tokens, Code code) {
            this.tokens = tokens;
            this.code = code;
        }

        boolean beginMay(Code target) {
            code = target;
            inMay = true;
            code.mayFrom = code.size;
            return true;
        }

        boolean endMay() {
            code.mayTo = code.size;
            return true;
        }

        boolean beginWears(Code target) {
            code = target;
            inMay = false;
            code.wearsFrom = code.size;
            return true;
        }

        boolean endWears() {
            code.wearsTo = code.size;
            return true;
        }

        boolean readTest(int open) {
            boolean fine = readBoth(open);
            for (int i = 0; i < TAPE_MOST && fine && tokens.isWord(Tokens.OR); i++) {
                tokens.advance();
                fine = readBoth(open) && code.put(Code.OR, 0);
            }
            return fine;
        }

        private boolean readBoth(int open) {
            boolean fine = readFact(open);
            for (int i = 0; i < TAPE_MOST && fine && tokens.isWord(Tokens.AND); i++) {
                tokens.advance();
                fine = readFact(open) && code.put(Code.AND, 0);
            }
            return fine;
        }

        private boolean readFact(int open) {
            if (tokens.isWord(Tokens.NOT)) {
                return opens(open) && readFact(open + 1) && code.put(Code.NOT, 0);
            }
            if (tokens.isSign('[')) {
                return opens(open) && readTest(open + 1) && tokens.takeSign(']');
            }
            if (tokens.isWord(Tokens.ALL)) {
                tokens.advance();
                return code.put(Code.NUMBER, 1);
            }
            return readSum(open) && readSecondSum(open);
        }

        private boolean readSecondSum(int open) {
            int operation = comparison();
            if (operation == NONE) {
                return tokens.failHere();
            }
            tokens.advance();
            return readSum(open) && code.put(operation, 0);
        }

        private int comparison() {
            if (tokens.isSign('<')) {
                return Code.LESS;
            }
            if (tokens.isSign('>')) {
                return Code.MORE;
            }
            return tokens.isSign('=') ? Code.SAME : NONE;
        }

        boolean readSum(int open) {
            boolean fine = readProduct(open);
            for (int i = 0; i < TAPE_MOST && fine && (tokens.isSign('+') || tokens.isSign('-')); i++) {
                int operation = tokens.isSign('+') ? Code.PLUS : Code.MINUS;
                tokens.advance();
                fine = readProduct(open) && code.put(operation, 0);
            }
            return fine;
        }

        private boolean readProduct(int open) {
            boolean fine = readPart(open);
            for (int i = 0; i < TAPE_MOST && fine && productSign() != NONE; i++) {
                int operation = productSign();
                tokens.advance();
                fine = readPart(open) && code.put(operation, 0);
            }
            return fine;
        }

        private int productSign() {
            if (tokens.isSign('*')) {
                return Code.TIMES;
            }
            if (tokens.isSign('/')) {
                return Code.BY;
            }
            return tokens.isSign('%') ? Code.LEFT : NONE;
        }

        private boolean readPart(int open) {
            if (tokens.type == Tokens.NUMBER) {
                code.put(Code.NUMBER, tokens.value);
                tokens.advance();
                return true;
            }
            if (tokens.isSign('(')) {
                return opens(open) && readSum(open + 1) && tokens.takeSign(')');
            }
            if (tokens.isWord(Tokens.MIN)) {
                return readTwo(open, Code.MIN);
            }
            if (tokens.isWord(Tokens.MAX)) {
                return readTwo(open, Code.MAX);
            }
            if (tokens.isWord(Tokens.IF)) {
                return readIf(open);
            }
            int fact = factOfWord();
            if (fact == NONE) {
                return tokens.failHere();
            }
            tokens.advance();
            return code.put(Code.FACT, fact);
        }

        private boolean readTwo(int open, int operation) {
            tokens.advance();
            if (!tokens.isSign('(')) {
                return tokens.failHere();
            }
            return opens(open) && readSum(open + 1) && tokens.takeSign(',')
                    && readSum(open + 1) && tokens.takeSign(')') && code.put(operation, 0);
        }

        private boolean readIf(int open) {
            tokens.advance();
            if (!tokens.isSign('(')) {
                return tokens.failHere();
            }
            return opens(open) && readTest(open + 1) && tokens.takeSign(',')
                    && readSum(open + 1) && tokens.takeSign(',')
                    && readSum(open + 1) && tokens.takeSign(')') && code.put(Code.IF, 0);
        }

        private boolean opens(int open) {
            if (open >= OPEN_MOST) {
                return tokens.fail(5, tokens.start);
            }
            tokens.advance();
            return true;
        }

        private int factOfWord() {
            if (tokens.type != Tokens.WORD) {
                return NONE;
            }
            switch (tokens.own) {
                case Tokens.REST:
                    return Code.REST;
                case Tokens.WORN:
                    return Code.WORN;
                case Tokens.KNOWS:
                    return Code.KNOWS;
                case Tokens.HOURS:
                    return Code.HOURS;
                case Tokens.DAY:
                    return Code.DAY;
                case Tokens.LATE:
                    return Code.LATE;
                case Tokens.FROST:
                    return inMay ? Code.FROST : NONE;
                case Tokens.USED:
                    return inMay ? Code.USED : NONE;
                default:
                    return NONE;
            }
        }
    }

    /** Reads a text, STATEMENT by STATEMENT, into a Year. */
    private static final class YearReader {
        private static final int NUMBER_MOST = 9999;
        private static final int ROUND_LEAST = 2;
        private static final int ROUND_MOST = 30;

        private final Tokens tokens;
        private final RuleReader rules;
        private Year year;

        YearReader(Tokens tokens, Year year) {
            this.tokens = tokens;
            this.rules = new RuleReader(tokens, year.code);
            this.year = year;
        }

        /** How many STATEMENTS, or NONE with a FAULT. */
        int read(Year target, int length) {
            year = target;
            year.clear();
            tokens.begin(length);
            for (int count = 0; count <= STATEMENTS_MOST; count++) {
                if (tokens.type == Tokens.TEXT_END) {
                    return count;
                }
                if (count == STATEMENTS_MOST) {
                    tokens.fail(6, tokens.start);
                    return NONE;
                }
                if (!readStatement() || !tokens.takeSign(';')) {
                    return NONE;
                }
            }
            return NONE;
        }

        private boolean readStatement() {
            if (tokens.type != Tokens.WORD) {
                return tokens.failHere();
            }
            switch (tokens.own) {
                case Tokens.KIND:
                    return opensSort(SORT_KIND) && readKind();
                case Tokens.TOOL:
                    return opensSort(SORT_TOOL) && readTool();
                case Tokens.HAND:
                    return opensSort(SORT_HAND) && takeNewName(SORT_HAND) != NONE;
                case Tokens.JOB:
                    return opensSort(SORT_JOB) && readJob();
                case Tokens.KNOWS:
                    return readKnows();
                case Tokens.SERVES:
                    return readServes();
                case Tokens.MAY:
                    return opensRule(year.code.hasMay()) && rules.beginMay(year.code)
                            && rules.readTest(0) && rules.endMay();
                case Tokens.WEARS:
                    return opensRule(year.code.hasWears()) && rules.beginWears(year.code)
                            && rules.readSum(0) && rules.endWears();
                case Tokens.BREAKS:
                case Tokens.FINE:
                case Tokens.FROST:
                    return readSetting(tokens.own);
                case Tokens.SMITH:
                    return readSmith();
                default:
                    return tokens.failHere();
            }
        }

        private boolean opensSort(int sort) {
            return opensRule(year.isFull(sort));
        }

        private boolean opensRule(boolean tooMany) {
            if (tooMany) {
                return tokens.fail(6, tokens.start);
            }
            tokens.advance();
            return true;
        }

        private boolean readKind() {
            int kind = takeNewName(SORT_KIND);
            if (kind == NONE || !tokens.takeWord(Tokens.RESTS)) {
                return false;
            }
            int day = tokens.takeNumber(0, NUMBER_MOST);
            if (day == NONE || !tokens.takeWord(Tokens.OF)) {
                return false;
            }
            int round = tokens.takeNumber(leastRound(day), ROUND_MOST);
            if (round == NONE || kind >= KINDS_MOST) {
                return false;
            }
            year.restDay[kind] = day;
            year.round[kind] = round;
            return true;
        }

        /** A DAY as high as its ROUND is a FAULT of the ROUND, never of the DAY. */
        private static int leastRound(int day) {
            return Math.max(ROUND_LEAST, day + 1);
        }

        private boolean readTool() {
            int tool = takeNewName(SORT_TOOL);
            if (tool == NONE || !tokens.takeWord(Tokens.IS)) {
                return false;
            }
            int kind = takeNameOf(SORT_KIND, NONE);
            if (kind == NONE || !tokens.takeWord(Tokens.WORN)) {
                return false;
            }
            int worn = tokens.takeNumber(0, 99);
            if (worn == NONE || tool >= TOOLS_MOST) {
                return false;
            }
            year.toolKind[tool] = kind;
            year.toolWorn[tool] = worn;
            return true;
        }

        private boolean readKnows() {
            tokens.advance();
            int hand = takeNameOf(SORT_HAND, NONE);
            int tool = hand == NONE ? NONE : takeNameOf(SORT_TOOL, NONE);
            int known = tool == NONE ? NONE : tokens.takeNumber(0, KNOWN_MOST);
            if (known == NONE || hand >= HANDS_MOST || tool >= TOOLS_MOST) {
                return false;
            }
            year.known[hand * TOOLS_MOST + tool] = known;
            return true;
        }

        private boolean readJob() {
            int job = takeNewName(SORT_JOB);
            if (job == NONE || job >= JOBS_MOST || !tokens.takeWord(Tokens.BY)) {
                return false;
            }
            int term = tokens.takeNumber(0, LAST_DAY);
            if (term == NONE || !tokens.takeWord(Tokens.DOES)) {
                return false;
            }
            year.term[job] = term;
            for (int step = 0; step < STEPS_MOST && (step == 0 || tokens.startsStep()); step++) {
                int kind = takeNameOf(SORT_KIND, NONE);
                int hours = kind == NONE ? NONE : tokens.takeNumber(1, 9);
                if (hours == NONE) {
                    return false;
                }
                year.stepKind[job * STEPS_MOST + step] = kind;
                year.stepHours[job * STEPS_MOST + step] = hours;
                year.stepCount[job] = step + 1;
            }
            return !tokens.startsStep() || tokens.fail(6, tokens.start);
        }

        private boolean readServes() {
            tokens.advance();
            int server = takeNameOf(SORT_KIND, NONE);
            if (server == NONE || !tokens.takeWord(Tokens.FOR)) {
                return false;
            }
            int served = takeNameOf(SORT_KIND, server);
            if (served == NONE || !tokens.takeWord(Tokens.AT)) {
                return false;
            }
            int price = tokens.takeNumber(1, 99);
            if (price == NONE || server >= KINDS_MOST || served >= KINDS_MOST) {
                return false;
            }
            year.price[server * KINDS_MOST + served] = price;
            return true;
        }

        private boolean readSetting(int word) {
            tokens.advance();
            int number = tokens.takeNumber(word == Tokens.BREAKS ? 1 : 0, 100);
            if (number == NONE) {
                return false;
            }
            if (word == Tokens.BREAKS) {
                year.breaks = number;
            } else if (word == Tokens.FINE) {
                year.fine = number;
            } else {
                year.frost = number;
            }
            return true;
        }

        private boolean readSmith() {
            tokens.advance();
            int day = tokens.takeNumber(0, NUMBER_MOST);
            if (day == NONE || !tokens.takeWord(Tokens.OF)) {
                return false;
            }
            int round = tokens.takeNumber(leastRound(day), ROUND_MOST);
            if (round == NONE) {
                return false;
            }
            year.smithDay = day;
            year.smithRound = round;
            return true;
        }

        private boolean isNameHere() {
            return tokens.type == Tokens.WORD && tokens.own == NONE || tokens.failHere();
        }

        private int takeNewName(int sort) {
            if (!isNameHere()) {
                return NONE;
            }
            if (year.isGiven(tokens.value)) {
                tokens.fail(2, tokens.start);
                return NONE;
            }
            int which = year.give(sort, tokens.value);
            tokens.advance();
            return which;
        }

        private int takeNameOf(int sort, int unlike) {
            if (!isNameHere()) {
                return NONE;
            }
            int which = year.find(sort, tokens.value);
            if (which == NONE || which == unlike) {
                tokens.fail(3, tokens.start);
                return NONE;
            }
            tokens.advance();
            return which;
        }
    }

    /** What DAYS and ACTS change. */
    private static final class Yard {
        int day;
        int fines;
        // TOOLS as bits.
        int broken;
        int held;
        // How many STEPS are told as KEPT.
        int told;
        final int[] worn = new int[TOOLS_MOST];
        final int[] known = new int[HANDS_MOST * TOOLS_MOST];
        final int[] stepsDone = new int[JOBS_MOST];
        final int[] term = new int[JOBS_MOST];

        Yard() {
        }

        void copy(Yard other) {
            day = other.day;
            fines = other.fines;
            broken = other.broken;
            held = other.held;
            told = other.told;
            System.arraycopy(other.worn, 0, worn, 0, TOOLS_MOST);
            System.arraycopy(other.known, 0, known, 0, HANDS_MOST * TOOLS_MOST);
            System.arraycopy(other.stepsDone, 0, stepsDone, 0, JOBS_MOST);
            System.arraycopy(other.term, 0, term, 0, JOBS_MOST);
        }

        void start(Year year) {
            day = 0;
            fines = 0;
            broken = 0;
            held = 0;
            told = 0;
            System.arraycopy(year.toolWorn, 0, worn, 0, TOOLS_MOST);
            System.arraycopy(year.known, 0, known, 0, HANDS_MOST * TOOLS_MOST);
            Arrays.fill(stepsDone, 0);
            System.arraycopy(year.term, 0, term, 0, JOBS_MOST);
        }

        boolean isFinished(int job, Year year) {
            return job >= 0 && job < JOBS_MOST && stepsDone[job] >= year.stepCount[job];
        }

        boolean isAllFinished(Year year) {
            for (int job = 0; job < year.count(SORT_JOB); job++) {
                if (!isFinished(job, year)) {
                    return false;
                }
            }
            return true;
        }

        int daysLate(int job, Year year) {
            return year.holds(SORT_JOB, job) && !isFinished(job, year) ? Math.max(0, day - term[job]) : 0;
        }

        int knownBy(int hand, int tool) {
            boolean there = hand >= 0 && hand < HANDS_MOST && tool >= 0 && tool < TOOLS_MOST;
            return there ? known[hand * TOOLS_MOST + tool] : 0;
        }

        void pay(int fine) {
            fines = Math.min(FINES_MOST, fines + fine);
        }

        void swapHands(int first, int second) {
            if (first < 0 || first >= HANDS_MOST || second < 0 || second >= HANDS_MOST) {
                return;
            }
            for (int tool = 0; tool < TOOLS_MOST; tool++) {
                int one = known[first * TOOLS_MOST + tool];
                known[first * TOOLS_MOST + tool] = known[second * TOOLS_MOST + tool];
                known[second * TOOLS_MOST + tool] = one;
            }
        }
    }

    /** The ACTS that can be undone, and the STEPS that are KEPT. */
    private static final class Past {
        private static final int SAVED_MOST = 20;
        // Six JOBS have 24 STEPS together, and a STEP is done once: 60 are never passed.
        private static final int KEPT_MOST = 60;
        private static final int PARTS = 4;

        private final Yard[] saves = new Yard[SAVED_MOST];
        private final int[] kept = new int[KEPT_MOST * PARTS];
        private int next;
        int saved;

        Past() {
            for (int i = 0; i < SAVED_MOST; i++) {
                saves[i] = new Yard();
            }
        }

        void clear() {
            next = 0;
            saved = 0;
        }

        private Yard saveAt(int which) {
            return which >= 0 && which < SAVED_MOST ? saves[which] : null;
        }

        void save(Yard yard) {
            Yard save = saveAt(next);
            if (save == null) {
                return;
            }
            save.copy(yard);
            next = (next + 1) % SAVED_MOST;
            saved = Math.min(SAVED_MOST, saved + 1);
        }

        boolean restore(Yard yard) {
            int latest = (next + SAVED_MOST - 1) % SAVED_MOST;
            Yard save = saveAt(latest);
            if (saved == 0 || save == null) {
                return false;
            }
            next = latest;
            saved--;
            yard.copy(save);
            return true;
        }

        void keep(Yard yard, int job, int tool, int hand) {
            int at = yard.told;
            if (at < 0 || at >= KEPT_MOST) {
                return;
            }
            kept[at * PARTS] = yard.day;
            kept[at * PARTS + 1] = job;
            kept[at * PARTS + 2] = tool;
            kept[at * PARTS + 3] = hand;
            yard.told = at + 1;
        }

        int keptPart(int k, int part) {
            boolean there = k >= 0 && k < KEPT_MOST && part >= 0 && part < PARTS;
            return there ? kept[k * PARTS + part] : NONE;
        }
    }

    /** Works through DAYS on a Yard. */
    private static final class Shop {
        // REST DAYS and the row of JOBS are its own, for the questions what if they were others.
        final int[] rest = new int[KINDS_MOST];
        final int[] row = new int[JOBS_MOST];
        private final int[] facts = new int[Code.FACTS];
        private final Past past;
        private Year year;
        private Yard yard;
        private boolean keeping;
        int usedTools;
        private int usedHands;
        // All that was LATE since it was opened.
        int lateness;
        // STEPS worked since it was opened.
        int worked;

        Shop(Year year, Yard yard, Past past) {
            this.year = year;
            this.yard = yard;
            this.past = past;
        }

        void open(Year newYear, Yard newYard, boolean keepsSteps) {
            year = newYear;
            yard = newYard;
            keeping = keepsSteps;
            System.arraycopy(year.restDay, 0, rest, 0, KINDS_MOST);
            for (int i = 0; i < JOBS_MOST; i++) {
                row[i] = i;
            }
            lateness = 0;
            worked = 0;
        }

        void passDay(int frost) {
            mend();
            usedTools = 0;
            usedHands = 0;
            facts[Code.DAY] = yard.day;
            facts[Code.FROST] = frost;
            for (int i = 0; i < year.count(SORT_JOB); i++) {
                workStep(row[i]);
            }
            payForLate();
            yard.day = Math.min(LAST_DAY, yard.day + 1);
        }

        private void mend() {
            if (year.smithRound <= 0 || yard.day % year.smithRound != year.smithDay) {
                return;
            }
            for (int tool = 0; tool < TOOLS_MOST; tool++) {
                if ((yard.broken >> tool & 1) == 1) {
                    yard.worn[tool] = 0;
                }
            }
            yard.broken = 0;
        }

        private void workStep(int job) {
            if (!year.holds(SORT_JOB, job) || yard.isFinished(job, year)) {
                return;
            }
            int kind = year.kindOfStep(job, yard.stepsDone[job]);
            if (!year.holds(SORT_KIND, kind)) {
                return;
            }
            facts[Code.REST] = isResting(kind) ? 1 : 0;
            facts[Code.HOURS] = year.hoursOfStep(job, yard.stepsDone[job]);
            facts[Code.LATE] = yard.daysLate(job, year);
            facts[Code.USED] = Integer.bitCount(usedTools);
            int tool = chooseTool(kind);
            if (tool != NONE) {
                useTool(job, tool, chooseHand(tool));
            }
        }

        private boolean isResting(int kind) {
            return year.round[kind] > 0 && yard.day % year.round[kind] == rest[kind];
        }

        private int chooseTool(int kind) {
            int out = yard.broken | yard.held | usedTools;
            Code code = year.code;
            int best = NONE;
            for (int tool = 0; tool < year.count(SORT_TOOL); tool++) {
                boolean free = year.toolKind[tool] == kind && (out >> tool & 1) == 0;
                boolean better = best == NONE || yard.worn[tool] < yard.worn[best];
                int hand = free && better ? chooseHand(tool) : NONE;
                if (hand != NONE) {
                    tellFacts(tool, hand);
                    boolean may = code.hasMay() ? code.run(code.mayFrom, code.mayTo, facts) != 0
                            : facts[Code.REST] == 0;
                    best = may ? tool : best;
                }
            }
            return best;
        }

        private int chooseHand(int tool) {
            int best = NONE;
            for (int hand = 0; hand < year.count(SORT_HAND); hand++) {
                boolean free = (usedHands >> hand & 1) == 0;
                if (free && (best == NONE || yard.knownBy(hand, tool) > yard.knownBy(best, tool))) {
                    best = hand;
                }
            }
            return best;
        }

        private void tellFacts(int tool, int hand) {
            if (tool >= 0 && tool < TOOLS_MOST) {
                facts[Code.WORN] = yard.worn[tool];
            }
            facts[Code.KNOWS] = yard.knownBy(hand, tool);
        }

        private void useTool(int job, int tool, int hand) {
            if (hand < 0 || hand >= HANDS_MOST || tool < 0 || tool >= TOOLS_MOST) {
                return;
            }
            tellFacts(tool, hand);
            Code code = year.code;
            int wear = code.hasWears() ? code.run(code.wearsFrom, code.wearsTo, facts) : facts[Code.HOURS];
            yard.worn[tool] = Math.min(WORN_MOST, yard.worn[tool] + Math.max(0, Math.min(99, wear)));
            yard.known[hand * TOOLS_MOST + tool] = Math.min(KNOWN_MOST, yard.knownBy(hand, tool) + 1);
            if (facts[Code.REST] == 1) {
                yard.pay(year.fine);
            }
            if (yard.worn[tool] >= year.breaks) {
                yard.broken |= 1 << tool;
            }
            usedTools |= 1 << tool;
            usedHands |= 1 << hand;
            yard.stepsDone[job]++;
            worked++;
            if (keeping) {
                past.keep(yard, job, tool, hand);
            }
        }

        private void payForLate() {
            for (int job = 0; job < year.count(SORT_JOB); job++) {
                int days = yard.daysLate(job, year);
                lateness += days;
                if (days > 0) {
                    yard.pay(year.fine);
                }
            }
        }
    }

    /** Answers what comes AHEAD, on a Yard of its own. */
    private static final class Ahead {
        private static final int ORDERS_MOST = 720;
        // Six JOBS, 100 DAYS, 999 late at most: never as much.
        private static final int BEYOND_LATENESS = 1000000;

        private final Yard now;
        private final Yard trial = new Yard();
        private final Shop shop;
        private Year year;
        private final int[] tryRow = new int[JOBS_MOST];
        // What was found last stays until something changes: it is asked for part by part.
        final int[] bestRow = new int[JOBS_MOST];
        int orderLateness;
        private int orderDays;
        int moveKind = NONE;
        int moveDay;
        int moveGain;
        private int moveDays;

        Ahead(Year year, Yard now, Past past) {
            this.year = year;
            this.now = now;
            this.shop = new Shop(year, trial, past);
        }

        void turnTo(Year newYear) {
            year = newYear;
            forget();
        }

        void forget() {
            orderDays = 0;
            moveDays = 0;
        }

        void restart() {
            trial.copy(now);
            shop.open(year, trial, false);
        }

        int toolsOfNextDay() {
            shop.passDay(0);
            return shop.usedTools;
        }

        /** Neither STEPS nor fines nor lateness change once all JOBS are done, so it stops there. */
        private void pass(int n, int latenessBound) {
            for (int i = 0; i < n && shop.lateness < latenessBound && !trial.isAllFinished(year); i++) {
                shop.passDay(0);
            }
        }

        int behind(int n, int job) {
            restart();
            pass(n, BEYOND_LATENESS);
            return year.holds(SORT_JOB, job) ? trial.stepsDone[job] : trial.fines;
        }

        int daysUntilDone(int job, int most) {
            restart();
            for (int n = 0; n < most && !trial.isFinished(job, year); n++) {
                shop.passDay(0);
            }
            return trial.isFinished(job, year) ? trial.day - now.day : NONE;
        }

        int latenessBehind(int n) {
            restart();
            pass(n, BEYOND_LATENESS);
            return shop.lateness;
        }

        /** No row and no REST DAYS make less LATE than a STEP of each JOB on each DAY. */
        private int leastLateness(int n) {
            int least = 0;
            for (int job = 0; job < year.count(SORT_JOB); job++) {
                int daysOpen = Math.min(n, year.stepCount[job] - now.stepsDone[job] - 1);
                for (int i = 0; i < daysOpen; i++) {
                    least += Math.max(0, now.day + i - now.term[job]);
                }
            }
            return least;
        }

        void findOrder(int n) {
            if (orderDays == n) {
                return;
            }
            orderDays = n;
            int jobs = year.count(SORT_JOB);
            for (int i = 0; i < JOBS_MOST; i++) {
                tryRow[i] = i;
            }
            int least = leastLateness(n);
            orderLateness = BEYOND_LATENESS;
            boolean more = true;
            for (int i = 0; i < ORDERS_MOST && more && orderLateness > least; i++) {
                if (isWorthTrying(jobs)) {
                    restart();
                    System.arraycopy(tryRow, 0, shop.row, 0, JOBS_MOST);
                    pass(n, orderLateness);
                    keepOrderIfBest();
                }
                more = turnToNextRow(jobs);
            }
        }

        /** A JOB that is done takes part in nothing: only rows that have it as far ahead as can be. */
        private boolean isWorthTrying(int jobs) {
            for (int i = 0; i + 1 < jobs && i + 1 < JOBS_MOST; i++) {
                boolean falls = tryRow[i] > tryRow[i + 1];
                if (falls && (now.isFinished(tryRow[i], year) || now.isFinished(tryRow[i + 1], year))) {
                    return false;
                }
            }
            return true;
        }

        private void keepOrderIfBest() {
            if (shop.lateness < orderLateness) {
                orderLateness = shop.lateness;
                System.arraycopy(tryRow, 0, bestRow, 0, JOBS_MOST);
            }
        }

        /** The next row by JOBS; false behind the last one. */
        private boolean turnToNextRow(int jobs) {
            int at = jobs - 2;
            while (at >= 0 && tryRow[at] > tryRow[at + 1]) {
                at--;
            }
            if (at < 0) {
                return false;
            }
            int above = jobs - 1;
            while (above > at && tryRow[above] < tryRow[at]) {
                above--;
            }
            exchange(at, above);
            for (int low = at + 1, high = jobs - 1; low < high; low++, high--) {
                exchange(low, high);
            }
            return true;
        }

        private void exchange(int one, int other) {
            if (one < 0 || one >= JOBS_MOST || other < 0 || other >= JOBS_MOST) {
                return;
            }
            int job = tryRow[one];
            tryRow[one] = tryRow[other];
            tryRow[other] = job;
        }

        void findMove(int n) {
            if (moveDays == n) {
                return;
            }
            moveDays = n;
            moveKind = NONE;
            restart();
            pass(n, BEYOND_LATENESS);
            int without = shop.lateness;
            int least = leastLateness(n);
            int best = without;
            for (int kind = 0; kind < year.count(SORT_KIND); kind++) {
                for (int day = 0; day < year.round[kind] && best > least; day++) {
                    // On its own REST DAY it comes out as without, which is never less.
                    restart();
                    shop.rest[kind] = day;
                    pass(n, best);
                    if (shop.lateness < best) {
                        best = shop.lateness;
                        moveKind = kind;
                        moveDay = day;
                    }
                }
            }
            moveGain = without - best;
        }

        private boolean isDoneBehind(int job, int n, int heldToo) {
            restart();
            trial.held |= heldToo;
            for (int i = 0; i < n && !trial.isFinished(job, year); i++) {
                shop.passDay(0);
            }
            return trial.isFinished(job, year);
        }

        int hangsOn(int job, int n) {
            if (now.isFinished(job, year) || !isDoneBehind(job, n, 0)) {
                return 0;
            }
            int bits = 0;
            for (int tool = 0; tool < year.count(SORT_TOOL); tool++) {
                boolean asked = (now.held >> tool & 1) == 0;
                if (asked && !isDoneBehind(job, n, 1 << tool)) {
                    bits |= 1 << tool;
                }
            }
            return bits;
        }

        int guardOf(int job, int n) {
            if (now.isFinished(job, year)) {
                return NONE;
            }
            int all = 1 << year.count(SORT_TOOL);
            for (int size = 0; size <= GUARD_TOOLS_MOST; size++) {
                for (int bits = 0; bits < all; bits++) {
                    boolean asked = Integer.bitCount(bits) == size && (bits & now.held) == 0;
                    if (asked && !isDoneBehind(job, n, bits)) {
                        return bits;
                    }
                }
            }
            return NONE;
        }
    }

    /** Lends TOOLS round rings of HANDS; HAND and TOOL of one number belong together at first. */
    private static final class Loans {
        final int[] got = new int[HANDS_MOST];
        final int[] round = new int[HANDS_MOST];
        final int[] ring = new int[HANDS_MOST];
        private final int[] points = new int[HANDS_MOST];

        Loans() {
        }

        void settle(Year year, Yard yard) {
            int lenders = Math.min(HANDS_MOST, Math.min(year.count(SORT_HAND), year.count(SORT_TOOL)));
            int left = (1 << lenders) - 1;
            for (int turn = 1; turn <= lenders && left != 0; turn++) {
                pointAll(left, yard);
                left &= ~closeRings(left, turn);
            }
        }

        private void pointAll(int left, Yard yard) {
            for (int hand = 0; hand < HANDS_MOST; hand++) {
                points[hand] = hand;
                for (int tool = 0; tool < HANDS_MOST; tool++) {
                    boolean there = (left >> hand & 1) == 1 && (left >> tool & 1) == 1;
                    if (there && isBetter(hand, tool, points[hand], yard)) {
                        points[hand] = tool;
                    }
                }
            }
        }

        /** Its own TOOL is where each begins, so one as well known does not take its place. */
        private static boolean isBetter(int hand, int tool, int than, Yard yard) {
            return yard.knownBy(hand, tool) > yard.knownBy(hand, than);
        }

        /** Who leaves, as bits. */
        private int closeRings(int left, int turn) {
            int leaving = 0;
            for (int hand = 0; hand < HANDS_MOST; hand++) {
                int size = (left >> hand & 1) == 1 ? ringSize(hand) : 0;
                if (size > 0) {
                    got[hand] = points[hand];
                    round[hand] = turn;
                    ring[hand] = size;
                    leaving |= 1 << hand;
                }
            }
            return leaving;
        }

        /** 0 if the pointing does not come back to this HAND. */
        private int ringSize(int hand) {
            int at = hand;
            for (int size = 1; size <= HANDS_MOST; size++) {
                if (at < 0 || at >= HANDS_MOST) {
                    return 0;
                }
                at = points[at];
                if (at == hand) {
                    return size;
                }
            }
            return 0;
        }
    }

    /** Writes and reads IMAGES. */
    private static final class Picture {
        private static final int BYTES_MOST = 4 + 3 * TOOLS_MOST + HANDS_MOST * TOOLS_MOST + 3 * JOBS_MOST + 1;

        final int[] bytes = new int[BYTES_MOST];
        int length;
        // What the IMAGE that was read last tells.
        final Yard told = new Yard();
        private int at;
        private boolean sound;

        Picture() {
        }

        private static int sizeOf(Year year) {
            int tools = year.count(SORT_TOOL);
            return 4 + 3 * tools + year.count(SORT_HAND) * tools + 3 * year.count(SORT_JOB) + 1;
        }

        private static int sumOf(int[] row, int count) {
            int c = 157;
            for (int i = 0; i < count && i < row.length; i++) {
                c = (5 * c + row[i]) % 251;
            }
            return c;
        }

        int write(Year year, Yard yard) {
            length = 0;
            putTwo(yard.day);
            putTwo(yard.fines);
            for (int tool = 0; tool < year.count(SORT_TOOL); tool++) {
                put(yard.worn[tool]);
                put(yard.broken >> tool & 1);
                put(yard.held >> tool & 1);
            }
            for (int hand = 0; hand < year.count(SORT_HAND); hand++) {
                for (int tool = 0; tool < year.count(SORT_TOOL); tool++) {
                    put(yard.knownBy(hand, tool));
                }
            }
            for (int job = 0; job < year.count(SORT_JOB); job++) {
                put(yard.stepsDone[job]);
                putTwo(yard.term[job]);
            }
            put(sumOf(bytes, length));
            return length;
        }

        private void putTwo(int number) {
            put(number >> 8);
            put(number);
        }

        private void put(int number) {
            if (length < BYTES_MOST) {
                bytes[length] = number & 255;
                length++;
            }
        }

        boolean read(Year year, int[] tape, int count) {
            if (count != sizeOf(year) || count > tape.length || sumOf(tape, count - 1) != tape[count - 1]) {
                return false;
            }
            at = 0;
            sound = true;
            told.told = 0;
            told.broken = 0;
            told.held = 0;
            told.day = takeTwo(tape, LAST_DAY);
            told.fines = takeTwo(tape, FINES_MOST);
            for (int tool = 0; tool < year.count(SORT_TOOL); tool++) {
                told.worn[tool] = take(tape, WORN_MOST);
                told.broken |= take(tape, 1) << tool;
                told.held |= take(tape, 1) << tool;
            }
            for (int hand = 0; hand < year.count(SORT_HAND); hand++) {
                for (int tool = 0; tool < year.count(SORT_TOOL); tool++) {
                    told.known[hand * TOOLS_MOST + tool] = take(tape, KNOWN_MOST);
                }
            }
            for (int job = 0; job < year.count(SORT_JOB); job++) {
                told.stepsDone[job] = take(tape, year.stepCount[job]);
                told.term[job] = takeTwo(tape, LAST_DAY);
            }
            return sound;
        }

        private int takeTwo(int[] tape, int most) {
            int high = take(tape, 255);
            return bounded(high << 8 | take(tape, 255), most);
        }

        private int take(int[] tape, int most) {
            int number = at < tape.length ? tape[at] : 0;
            at++;
            return bounded(number, most);
        }

        private int bounded(int number, int most) {
            sound = sound && number <= most;
            return Math.min(number, most);
        }
    }
}
