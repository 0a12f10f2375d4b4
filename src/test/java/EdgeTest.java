import java.math.BigInteger;
import java.util.function.IntSupplier;

/**
 * The boundary cases, sentence by sentence of the document: each test quotes its sentence (says), and fails if the
 * sentence is broken. No object is used for more than 512 calls.
 */
public final class EdgeTest {
    private static final int NONE = PathReader.NONE, BAD = PathReader.BAD, NO = PathReader.NO, FULL = PathReader.FULL;
    private static final int LEAST = Integer.MIN_VALUE, MOST = Integer.MAX_VALUE;
    private static int wrong = 0;
    private static int sentences = 0;
    private static String sentence = "";

    public static void main(String[] args) {
        pricesAndSorts();
        rootPrices();
        entries();
        settings();
        words();
        whatAnAnalysisIs();
        costs();
        choosing();
        changed();
        stumbles();
        stuck();
        whatStays();
        bestAndWays();
        textBytes();
        textNumbers();
        textBlanks();
        textRefused();
        textFaults();
        states();
        refusals();
        gettersRefused();
        wordAndHeldNone();
        backs();
        digests();
        System.out.println(sentences + " sentences: " + (wrong == 0 ? "all answers are as due" : wrong + " are not as due"));
        if (wrong != 0) {
            System.exit(1);
        }
    }

    private static void says(String words) {
        sentence = words;
        sentences++;
    }

    private static void due(String call, long got, long want) {
        if (got != want) {
            wrong++;
            System.out.println("\"" + sentence + "\": " + call + " answered " + got + ", due is " + want);
        }
    }

    private static long power(int exponent) {
        long h = 1;
        for (int k = 0; k < exponent; k++) {
            h *= 31;
        }
        return h;
    }

    /** The call is refused so, counts once, leaves no STATE, and nothing else that digest tells becomes other. */
    private static void refused(PathReader x, String call, IntSupplier answer, int why) {
        int values = 9 + 7 + 6 * x.held(0) + 3 * x.told(3) + 6 + 72 + 1;
        long was = x.digest();
        due(call, answer.getAsInt(), why);
        due("digest() behind " + call, x.digest() - was, power(values - 1 - (BAD - why)));
    }

    /** The call answers so, leaves one STATE more, and all is as it was when it is taken back. */
    private static void leavesOne(PathReader x, String call, IntSupplier answer, int want) {
        int had = x.told(8);
        long was = x.digest();
        due(call, answer.getAsInt(), want);
        due("told(8) behind " + call, x.told(8), had + 1);
        due("back() behind " + call, x.back(), had);
        due("digest() behind back() behind " + call, x.digest(), was);
    }

    /** The call answers so, leaves no STATE, counts as no refusal. */
    private static void leavesNone(PathReader x, String call, IntSupplier answer, int want) {
        int had = x.told(8), refusals = x.told(0) + x.told(1) + x.told(2);
        due(call, answer.getAsInt(), want);
        due("told(8) behind " + call, x.told(8), had);
        due("refusals behind " + call, x.told(0) + x.told(1) + x.told(2), refusals);
    }

    private static int tell(PathReader x, String text) {
        x.clear();
        for (int k = 0; k < text.length(); k++) {
            x.type(text.charAt(k));
        }
        return x.does();
    }

    private static PathReader told(String text) {
        PathReader x = new PathReader();
        int done = tell(x, text);
        if (done < 0) {
            due("does() of " + text, done, 0);
        }
        return x;
    }

    private static int hearAll(PathReader x, int... entries) {
        int last = NONE;
        for (int e : entries) {
            last = x.hears(e);
        }
        return last;
    }

    private static void pricesAndSorts() {
        says("RULES: for a SORT h, a SORT d, a SIDE (0: d is ahead of h, 1: behind it)");
        PathReader x = new PathReader();
        int[] corners = {0, 5};
        for (int h : corners) {
            for (int d : corners) {
                due("rules(h, d, 0, 1)", x.rules(h, d, 0, 1), NONE);
                due("rules(h, d, 1, 2)", x.rules(h, d, 1, 2), NONE);
                due("rule(h, d, 0)", x.rule(h, d, 0), 1);
                due("rule(h, d, 1)", x.rule(h, d, 1), 2);
            }
        }
        int[] none = {-1, 6, LEAST, MOST};
        for (int s : none) {
            refused(x, "rules(" + s + ", 0, 0, 0)", () -> x.rules(s, 0, 0, 0), BAD);
            refused(x, "rules(0, " + s + ", 0, 0)", () -> x.rules(0, s, 0, 0), BAD);
            refused(x, "rules(0, 0, " + s + ", 0)", () -> x.rules(0, 0, s, 0), BAD);
        }
        refused(x, "rules(0, 0, 2, 0)", () -> x.rules(0, 0, 2, 0), BAD);
        PathReader ahead = told("e0;e1;r0 1 0 0;");
        due("hears(1): SORT 1 is no ROOT", ahead.hears(1), NONE);
        ahead.hears(0);
        due("ways(): SIDE 0, d is ahead", ahead.ways(), 1);
        ahead.silence();
        due("SIDE 0, d is not behind", hearAll(ahead, 0, 1), NONE);
        PathReader behind = told("e0;e1;r0 1 1 0;w0 1;");
        due("SIDE 1, d is behind", behind.word(2, 2), 1);
        behind.silence();
        hearAll(behind, 1, 0);
        due("SIDE 1, d is not ahead", behind.ways(), 0);

        says("a PRICE (0 .. 9), or none (at first none at all)");
        PathReader y = new PathReader();
        for (int k = 0; k < 72; k++) {
            due("rule() at first", y.rule(k / 12, k / 2 % 6, k % 2), NONE);
        }
        due("rules(3, 4, 1, 9)", y.rules(3, 4, 1, 9), NONE);
        due("rules(3, 4, 1, 0)", y.rules(3, 4, 1, 0), 9);
        due("rule(3, 4, 1): 0 is not none", y.rule(3, 4, 1), 0);
        refused(y, "rules(3, 4, 1, 10)", () -> y.rules(3, 4, 1, 10), BAD);
        refused(y, "rules(3, 4, 1, -2)", () -> y.rules(3, 4, 1, -2), BAD);
        refused(y, "rules(3, 4, 1, MOST)", () -> y.rules(3, 4, 1, MOST), BAD);
        refused(y, "rules(3, 4, 1, LEAST)", () -> y.rules(3, 4, 1, LEAST), BAD);
        due("rule(3, 4, 1)", y.rule(3, 4, 1), 0);

        says("NONE: there is none: what it was (NONE: none). .. (It may answer -1.)");
        due("rules(3, 4, 1, NONE)", y.rules(3, 4, 1, NONE), 0);
        due("rule(3, 4, 1)", y.rule(3, 4, 1), NONE);
        leavesOne(y, "rules(3, 4, 1, NONE), none as it was", () -> y.rules(3, 4, 1, NONE), NONE);
        leavesOne(y, "rules(3, 4, 1, 5), none as it was", () -> y.rules(3, 4, 1, 5), NONE);
        due("told(0)", y.told(0), 4);
    }

    private static void rootPrices() {
        says("ROOT PRICE of a SORT: 0 .. 9, or none (at first SORT 0 has 0, all others none)");
        for (int s = 0; s < 6; s++) {
            PathReader x = new PathReader();
            x.entry(s, NONE, 0);
            due("hears(0) of SORT " + s, x.hears(0), s == 0 ? 0 : NONE);
            due("held(4)", x.held(4), s == 0 ? 0 : NONE);
            due("roots(" + s + ", 9)", x.roots(s, 9), s == 0 ? 0 : NONE);
            due("rereads()", x.rereads(), 0);
            due("held(4)", x.held(4), 9);
        }
        says("ROOT PRICE of SORT s becomes v (NONE: none): what it was. S. BAD.");
        PathReader y = new PathReader();
        due("roots(5, 0)", y.roots(5, 0), NONE);
        due("roots(5, NONE)", y.roots(5, NONE), 0);
        leavesOne(y, "roots(5, NONE), none as it was", () -> y.roots(5, NONE), NONE);
        leavesOne(y, "roots(0, 0), as it was", () -> y.roots(0, 0), 0);
        leavesOne(y, "roots(0, 9)", () -> y.roots(0, 9), 0);
        int[][] bad = {{-1, 0}, {6, 0}, {LEAST, 0}, {MOST, 0}, {0, 10}, {0, -2}, {0, MOST}, {0, LEAST}, {6, 10}};
        for (int[] a : bad) {
            refused(y, "roots(" + a[0] + ", " + a[1] + ")", () -> y.roots(a[0], a[1]), BAD);
        }
    }

    private static void entries() {
        says("ENTRIES of the lexicon 0 on, as they come (never more than 12)");
        PathReader x = new PathReader();
        for (int e = 0; e < 12; e++) {
            due("of(" + e + ", 0), not yet there", x.of(e, 0), BAD);
            due("entry()", x.entry(e % 6, NONE, 0), e);
            due("of(" + e + ", 0)", x.of(e, 0), e % 6);
        }
        due("told(3)", x.told(3), 12);
        refused(x, "entry(0, NONE, 0), the 13th", () -> x.entry(0, NONE, 0), FULL);
        refused(x, "entry(0, 1, 9), the 13th", () -> x.entry(0, 1, 9), FULL);
        refused(x, "of(12, 0)", () -> x.of(12, 0), BAD);
        refused(x, "hears(12)", () -> x.hears(12), BAD);
        due("hears(11)", x.hears(11), NONE);
        due("word(1, 0)", x.word(1, 0), 11);
        due("back()", x.back(), 5);
        due("back(): the 12th is gone", x.back(), 4);
        due("told(3)", x.told(3), 11);
        due("entry(): there is room again", x.entry(3, 2, 9), 11);

        says("a SORT, perhaps a second, unlike one with an EXTRA (0 .. 9)");
        PathReader y = new PathReader();
        for (int s = 0; s < 6; s++) {
            int same = s;
            refused(y, "entry(s, s, 0)", () -> y.entry(same, same, 0), BAD);
        }
        due("entry(5, 0, 0)", y.entry(5, 0, 0), 0);
        due("entry(0, 5, 9)", y.entry(0, 5, 9), 1);
        due("of(0, 2)", y.of(0, 2), 0);
        due("of(1, 1)", y.of(1, 1), 5);
        due("of(1, 2)", y.of(1, 2), 9);
        int[][] extras = {{0, 1, 10}, {0, 1, -1}, {0, 1, MOST}, {0, 1, LEAST}};
        for (int[] a : extras) {
            refused(y, "entry(0, 1, " + a[2] + ")", () -> y.entry(a[0], a[1], a[2]), BAD);
        }

        says("BAD: z is s, too; x is not 0 with no z, too; FULL: 12.");
        int[][] bad = {{-1, NONE, 0}, {6, NONE, 0}, {LEAST, NONE, 0}, {MOST, NONE, 0}, {0, 6, 0}, {0, -2, 0},
            {0, MOST, 0}, {0, LEAST, 0}, {0, NONE, 1}, {0, NONE, 9}, {0, NONE, -1}, {0, NONE, NONE}, {-1, 0, 0}};
        for (int[] a : bad) {
            refused(y, "entry(" + a[0] + ", " + a[1] + ", " + a[2] + ")", () -> y.entry(a[0], a[1], a[2]), BAD);
        }
        leavesOne(y, "entry(0, NONE, 0)", () -> y.entry(0, NONE, 0), 2);
        leavesOne(y, "entry(0, 1, 0)", () -> y.entry(0, 1, 0), 2);
        refused(x, "entry(0, 0, 0), and there are 12", () -> x.entry(0, 0, 0), BAD);
        refused(x, "entry(0, NONE, 1), and there are 12", () -> x.entry(0, NONE, 1), BAD);
        refused(x, "entry(6, NONE, 0), and there are 12", () -> x.entry(6, NONE, 0), BAD);
    }

    private static void settings() {
        says("FARNESS (0 .. 3; 1 at first), WEIGHT of repairs (0 .. 9; 2 at first), BOUND (0 .. 99; 6 at first).");
        PathReader x = new PathReader();
        int[] first = {1, 2, 6}, most = {3, 9, 99};
        for (int k = 0; k < 3; k++) {
            int what = k, above = most[k] + 1;
            due("told() at first", x.told(4 + what), first[what]);
            due("sets() to the most", x.sets(what, most[what]), first[what]);
            due("told() of the most", x.told(4 + what), most[what]);
            refused(x, "sets() above the most", () -> x.sets(what, above), BAD);
            refused(x, "sets() of MOST", () -> x.sets(what, MOST), BAD);
            due("sets() to 0", x.sets(what, 0), most[what]);
            due("told() of 0", x.told(4 + what), 0);
            refused(x, "sets() below 0", () -> x.sets(what, -1), BAD);
            refused(x, "sets() of LEAST", () -> x.sets(what, LEAST), BAD);
        }
        says("FARNESS (what 0), WEIGHT (1), BOUND (2) becomes v: what it was. S. BAD.");
        refused(x, "sets(3, 0)", () -> x.sets(3, 0), BAD);
        refused(x, "sets(-1, 0)", () -> x.sets(-1, 0), BAD);
        refused(x, "sets(MOST, 0)", () -> x.sets(MOST, 0), BAD);
        refused(x, "sets(LEAST, 0)", () -> x.sets(LEAST, 0), BAD);
        x.back();
        x.back();
        for (int k = 0; k < 3; k++) {
            int what = k, now = x.told(4 + k);
            leavesOne(x, "sets() to what it is", () -> x.sets(what, now), now);
        }
    }

    private static void words() {
        says("WORDS of the sentence, 1 on, as they are heard (never more than 6), are ENTRIES.");
        PathReader x = told("e0;e0;r0 0 1 0;");
        for (int n = 1; n <= 6; n++) {
            due("word(" + n + ", 0), not yet heard", x.word(n, 0), BAD);
            due("hears()", x.hears(n % 2), 0);
            due("word(" + n + ", 0)", x.word(n, 0), n % 2);
            due("held(0)", x.held(0), n);
        }
        refused(x, "hears(0), the 7th", () -> x.hears(0), FULL);
        refused(x, "word(0, 0)", () -> x.word(0, 0), BAD);
        refused(x, "word(7, 0)", () -> x.word(7, 0), BAD);
        due("unhears()", x.unhears(), 5);
        due("hears(0): there is room again", x.hears(0), 0);

        says("WORD, ENTRY e, is heard: REPAIR; NONE: it is STUCK .. S. BAD; FULL: 6.");
        refused(x, "hears(2), the 7th: BAD is first", () -> x.hears(2), BAD);
        refused(x, "hears(-1), the 7th: BAD is first", () -> x.hears(-1), BAD);
        PathReader y = new PathReader();
        refused(y, "hears(0) with no ENTRIES", () -> y.hears(0), BAD);
        y.entry(0, NONE, 0);
        int[] none = {1, -1, 12, MOST, LEAST};
        for (int e : none) {
            refused(y, "hears(" + e + ")", () -> y.hears(e), BAD);
        }
        leavesOne(y, "hears(0)", () -> y.hears(0), 0);
        y.roots(0, NONE);
        leavesOne(y, "hears(0), STUCK", () -> y.hears(0), NONE);
        y.hears(0);
        for (int n = 2; n <= 6; n++) {
            due("hears(0), STUCK by a WORD ahead", y.hears(0), NONE);
        }
        refused(y, "hears(0), the 7th, STUCK", () -> y.hears(0), FULL);
    }

    private static void whatAnAnalysisIs() {
        says("a HEAD (another one of them, or 0 for just one of them, the ROOT)");
        PathReader one = told("e0;w0;");
        due("word(1, 2) of one WORD", one.word(1, 2), 0);
        due("ways() of one WORD", one.ways(), 1);
        due("two that could each be the ROOT, no RULE", one.hears(0), NONE);
        due("ways()", one.ways(), 0);

        says("so that from each WORD one comes from HEAD to HEAD to the ROOT");
        PathReader ring = told("e1;e2;e0;r2 1 0 0;r1 2 1 0;w0 1 2;");
        due("ways(): 1 and 2 on one another, 3 the ROOT", ring.ways(), 0);

        says("that all WORDS between a WORD and its HEAD come from HEAD to HEAD to that HEAD");
        PathReader crossing = told("e1;e2;e3;e0;r3 1 0 0;r0 2 0 0;r0 3 0 0;w0 1 2 3;");
        due("ways(): 1 on 3, 2 on 4", crossing.ways(), 0);
        crossing.silence();
        hearAll(crossing, 1, 0, 2, 3);
        due("ways(): 1 on 4, 2 on 3", crossing.ways(), 1);
        PathReader over = told("e1;e0;e3;r3 1 0 0;r0 3 1 0;w0 1 2;");
        due("ways(): 1 on 3, over the ROOT", over.ways(), 0);
        over.silence();
        hearAll(over, 1, 0, 2);
        due("ways(): the ROOT at the edge", over.ways(), 1);
        PathReader deep = told("e0;e1;e2;r0 1 1 0;r1 2 0 0;r2 2 0 0;w0 2 2 1;");
        due("ways(): between 1 and 4 all come to 4, or by 3 to it; to 1 none", deep.ways(), 2);

        says("that there is a ROOT PRICE for the ROOT's SORT, and a RULE for each other WORD");
        PathReader rootless = told("e1;o0-;w0;");
        due("held(1)", rootless.held(1), 1);
        rootless.roots(1, 0);
        due("rereads(): a ROOT PRICE of 0 is one", rootless.rereads(), 0);
        due("hears(0): no RULE", rootless.hears(0), NONE);
        rootless.rules(1, 1, 1, 0);
        due("rereads(): a PRICE of 0 is one", rootless.rereads(), 0);
        due("held(4)", rootless.held(4), 0);

        says("a READING (0 its first SORT, 1 its second, if it has one)");
        PathReader second = told("e1;f1 0 9;w0;");
        due("one SORT, which is no ROOT", second.held(1), 1);
        second.silence();
        due("its second SORT is", second.hears(1), 0);
        due("word(1, 1)", second.word(1, 1), 1);
        due("held(4): EXTRA", second.held(4), 9);
    }

    private static void costs() {
        says("COST: the ROOT PRICE, the PRICES of all RULES, EXTRA of each WORD of READING 1, ..");
        PathReader x = told("f4 0 9;f5 2 9;r0 2 1 9;o0 9;");
        x.sets(0, 3);
        int[] want = {18, 36, 57, 81, 108, 138};
        for (int n = 1; n <= 6; n++) {
            due("hears()", x.hears(n == 1 ? 0 : 1), 0);
            due("held(4) with all at the most", x.held(4), want[n - 1]);
        }
        PathReader free = told("f0 4 9;f2 5 9;r0 2 1 0;w0 1 1 1 1 1;");
        due("held(4): no EXTRA for READING 0", free.held(4), 10);

        says("for each WORD but the ROOT FARNESS times how many WORDS are between it and its HEAD");
        PathReader y = told("e0;e1;r0 1 1 0;r0 1 0 0;w0 1;");
        due("none between", y.held(4), 0);
        hearAll(y, 1, 1, 1, 1);
        due("FARNESS 1", y.held(4), 10);
        for (int farness = 0; farness <= 3; farness++) {
            y.sets(0, farness);
            y.rereads();
            due("FARNESS " + farness, y.held(4), 10 * farness);
        }
        y.silence();
        hearAll(y, 1, 1, 0, 1, 1, 1);
        due("FARNESS 3, on both sides", y.best(0, 0), 3 * (1 + 1 + 2));
    }

    private static void choosing() {
        says("it takes on that of the least COST and REPAIR together; of such that of the least REPAIR");
        // kept: COST 9, REPAIR 0; read otherwise: COST 5 + v, REPAIR 2, and its row would be first
        for (int v = 1; v <= 3; v++) {
            PathReader x = told("f0 1 0;e2;o0 5;o1 0;r1 2 1 9;r0 2 1 " + v + ";");
            x.hears(0);
            due("word(1, 1)", x.word(1, 1), 1);
            due("hears(1)", x.hears(1), v == 1 ? 2 : 0);
            due("word(1, 1)", x.word(1, 1), v == 1 ? 0 : 1);
            due("held(4): COST without REPAIR", x.held(4), v == 1 ? 6 : 9);
        }
        says("of such that whose row is first: READING, HEAD of WORD 1, READING, HEAD of WORD 2, ..");
        PathReader reading = told("f1 2 0;e3;o0-;o3 0;o2 0;o1 0;r3 1 0 0;r2 3 1 0;w0 1;");
        due("READING 0 and HEAD 2 ahead of READING 1 and HEAD 0", reading.word(1, 1), 0);
        due("its HEAD", reading.word(1, 2), 2);
        PathReader head = told("e1;f2 3 0;o1 0;o2 0;r1 3 1 0;r2 1 0 0;w0 1;");
        due("HEAD 0 of WORD 1 ahead of READING 0 of WORD 2", head.word(1, 2), 0);
        due("READING of WORD 2", head.word(2, 1), 1);
        PathReader last = told("e0;e1;r0 1 1 0;r1 1 1 0;w0 1;");
        last.sets(0, 0);
        hearAll(last, 1, 1, 1, 1);
        for (int i = 2; i <= 6; i++) {
            due("HEAD of WORD " + i, last.word(i, 2), 1);
        }
    }

    private static void changed() {
        says("for each i of the WORDS 1 to n - 1 that is CHANGED, WEIGHT times (n - i), together");
        // SORTS 0 and 1 do not mix, SORT 3 hangs on SORT 1 alone: it makes all that were SORT 0 SORT 1
        int[] weights = {0, 1, 9};
        for (int weight : weights) {
            PathReader x = told("f0 1 0;e2;e3;o1 0;r0 0 1 0;r1 1 1 0;r0 2 1 0;r1 2 1 0;r1 3 1 0;");
            x.sets(0, 0);
            x.sets(1, weight);
            hearAll(x, 0, 0, 1, 0, 1);
            due("hears(2): 1, 2, 4 are CHANGED, 3, 5 not", x.hears(2), weight * (5 + 4 + 2));
            due("word(6, 3)", x.word(6, 3), weight * 11);
            x.silence();
            hearAll(x, 0, 0, 0, 0, 0);
            due("hears(2): all are CHANGED", x.hears(2), weight * 15);
            due("held(3)", x.held(3), weight * 15);
            x.silence();
            x.hears(0);
            due("hears(2): the one ahead is", x.hears(2), weight);
            x.silence();
            due("hears(0): there is none ahead", x.hears(0), 0);
        }
        says("CHANGED is one whose READING is not as it was, or that was not the ROOT and whose HEAD is not as it was");
        // WORD 1 hangs on 2 and becomes the ROOT; WORD 2, the ROOT, comes to hang
        PathReader up = told("e1;e2;e3;o1 9;o2 0;r2 1 0 0;r1 2 1 0;r1 3 1 0;");
        hearAll(up, 0, 1);
        due("word(1, 2)", up.word(1, 2), 2);
        due("hears(2): WORD 1 alone is CHANGED", up.hears(2), 4);
        due("word(1, 2)", up.word(1, 2), 0);
        due("word(2, 2)", up.word(2, 2), 1);
        // WORD 2 hangs on 1, the ROOT, and becomes the ROOT; WORD 1 comes to hang
        PathReader down = told("e1;e2;e3;o1 0;o2 9;r1 2 1 0;r2 1 0 0;r2 3 1 0;o0-;");
        hearAll(down, 0, 1);
        due("word(2, 2)", down.word(2, 2), 1);
        due("hears(2): WORD 2 stays", down.hears(2), 0);
        due("word(2, 2)", down.word(2, 2), 1);
        down.roots(1, NONE);
        down.unhears();
        due("hears(2): WORD 2 alone is CHANGED", down.hears(2), 2);
        due("word(1, 2)", down.word(1, 2), 2);
        due("word(2, 2)", down.word(2, 2), 0);
        // READING and HEAD of WORD 1 become other: it is CHANGED once
        PathReader both = told("f1 2 0;e3;e4;o1 0;o3 0;o4 0;r3 1 0 0;r4 2 0 0;r4 3 0 0;");
        hearAll(both, 0, 1);
        due("word(1, 2)", both.word(1, 2), 2);
        due("hears(2)", both.hears(2), 0);
        both.rules(3, 1, 0, 9);
        both.rules(4, 1, 0, 0);
        both.silence();
        hearAll(both, 0, 1);
        due("hears(2): another HEAD", both.hears(2), 4);
        both.rules(4, 1, 0, NONE);
        both.silence();
        hearAll(both, 0, 1);
        due("hears(2): another READING and HEAD", both.hears(2), 4);
        due("word(1, 1)", both.word(1, 1), 1);
        due("word(1, 2)", both.word(1, 2), 3);

        says("(so a ROOT that comes to hang is CHANGED by another READING alone)");
        PathReader root = told("f0 1 0;e2;o2 0;r2 0 0 0;");
        root.hears(0);
        due("hears(1): it comes to hang", root.hears(1), 0);
        due("word(1, 2)", root.word(1, 2), 2);
        root.rules(2, 0, 0, NONE);
        root.rules(2, 1, 0, 0);
        root.silence();
        root.hears(0);
        due("hears(1): it comes to hang, read otherwise", root.hears(1), 2);
        due("word(1, 2)", root.word(1, 2), 2);
    }

    private static void stumbles() {
        says("It STUMBLES at n, if REPAIR is above BOUND.");
        int[][] cases = {{9, 99, 0}, {9, 98, 1}, {1, 11, 0}, {1, 10, 1}, {1, 0, 1}, {0, 0, 0}};
        for (int[] c : cases) {
            PathReader x = told("f0 1 0;e2;e3;o1 0;r0 0 1 0;r1 1 1 0;r0 2 1 0;r1 2 1 0;r1 3 1 0;");
            x.sets(0, 0);
            x.sets(1, c[0]);
            x.sets(2, c[1]);
            hearAll(x, 0, 0, 1, 0, 1);
            due("held(2), no REPAIR yet", x.held(2), 0);
            due("hears(2)", x.hears(2), 11 * c[0]);
            due("word(6, 4), REPAIR " + 11 * c[0] + ", BOUND " + c[1], x.word(6, 4), c[2]);
            due("held(2)", x.held(2), c[2]);
            due("rereads()", x.rereads(), c[2]);
        }
        PathReader most = told("f0 1 0;e3;o1 0;r0 0 1 0;r1 1 1 0;r1 3 1 0;");
        most.sets(1, 9);
        most.sets(2, 99);
        hearAll(most, 0, 0, 0, 0, 0, 1);
        due("word(6, 3)", most.word(6, 3), 135);
        due("word(6, 4): above the most BOUND", most.word(6, 4), 1);
    }

    private static void stuck() {
        says("it holds none from then on, whatever is heard, until WORDS are taken away or all begins anew");
        PathReader x = told("e0;e1;w0;");
        due("hears(1)", x.hears(1), NONE);
        x.rules(0, 1, 1, 0);
        due("held(1)", x.held(1), 1);
        due("hears(1), though there is an ANALYSIS now", x.hears(1), NONE);
        due("ways()", x.ways(), 1);
        due("unhears(): the WORD that it is STUCK by is there", x.unhears(), 2);
        due("held(1)", x.held(1), 1);
        due("unhears()", x.unhears(), 1);
        due("held(1)", x.held(1), 0);
        due("held(5)", x.held(5), 1);
        due("hears(1)", x.hears(1), 0);
        x.rules(0, 1, 1, NONE);
        due("rereads()", x.rereads(), NONE);
        due("held(1)", x.held(1), 1);
        x.rules(0, 1, 1, 0);
        due("rereads(): all begins anew", x.rereads(), 0);
        due("held(1)", x.held(1), 0);
        x.hears(0);
        due("held(1)", x.held(1), 1);
        due("silence()", x.silence(), 3);
        due("held(1): no WORDS", x.held(1), 0);
        due("hears(0)", x.hears(0), 0);
        due("hears(0)", x.hears(0), NONE);
        due("back()", x.back(), 5);
        due("held(1): a STATE back", x.held(1), 0);

        says("REPAIR is 0 then, it does not STUMBLE");
        PathReader y = told("e0;e1;w0 1 1;");
        y.sets(2, 0);
        y.rereads();
        for (int i = 2; i <= 3; i++) {
            due("word(i, 3)", y.word(i, 3), 0);
            due("word(i, 4)", y.word(i, 4), 0);
            due("word(i, 5)", y.word(i, 5), NONE);
        }
        due("held(2)", y.held(2), 0);
        due("held(3)", y.held(3), 0);
    }

    private static void whatStays() {
        says("what is held, REPAIRS and COSTS as they were reckoned when WORDS were heard stay, until read again");
        PathReader x = told("e1;f0 2 1;e0;r0 1 0 0;r1 2 1 0;o1 5;w0 1 2;");
        x.sets(0, 3);
        x.sets(1, 0);
        x.sets(2, 0);
        x.roots(0, NONE);
        x.rules(0, 1, 0, NONE);
        x.entry(5, NONE, 0);
        int[][] stays = {{0, 0, 3, 0, 0, 5}, {1, 1, 1, 0, 0, 0}, {2, 0, 0, 6, 0, 2}};
        for (int k = 0; k < 18; k++) {
            due("word(" + (1 + k / 6) + ", " + k % 6 + ")", x.word(1 + k / 6, k % 6), stays[k / 6][k % 6]);
        }
        due("held(4)", x.held(4), 2);
        due("sound()", x.sound(), 0);
        x.rules(0, 1, 0, 7);
        due("sound()", x.sound(), 0);
        x.roots(0, 0);
        due("sound(), whatever the PRICE", x.sound(), 1);
        due("rereads()", x.rereads(), 0);
        due("word(3, 3): WEIGHT 0", x.word(3, 3), 0);
        due("held(4): PRICE 7, EXTRA 1, FARNESS 3", x.held(4), 11);

        says("BEST, WAYS are as all is now");
        x.sets(0, 0);
        due("best(0, 0)", x.best(0, 0), 8);
        x.rules(1, 2, 1, NONE);
        due("best(0, 0)", x.best(0, 0), NONE);
        due("ways()", x.ways(), 0);
        due("held(4)", x.held(4), 11);

        says("All WORDS are heard anew, from the first on, as all is now: how many STUMBLES; NONE: it is STUCK. S.");
        PathReader y = new PathReader();
        leavesOne(y, "rereads() of no WORDS", y::rereads, 0);
        y.entry(0, NONE, 0);
        y.hears(0);
        leavesOne(y, "rereads(), nothing becomes other", y::rereads, 0);
        y.roots(0, NONE);
        leavesOne(y, "rereads(), STUCK by WORD 1", y::rereads, NONE);
    }

    private static void bestAndWays() {
        says("BEST: its COST (i 0), READING of WORD i (what 0), HEAD (1); NONE: there is none.");
        PathReader x = new PathReader();
        leavesNone(x, "best(0, 0) of no WORDS", () -> x.best(0, 0), NONE);
        leavesNone(x, "best(0, 1) of no WORDS", () -> x.best(0, 1), NONE);
        x.entry(1, NONE, 0);
        x.hears(0);
        leavesNone(x, "best(0, 0): none", () -> x.best(0, 0), NONE);
        leavesNone(x, "best(1, 0): none", () -> x.best(1, 0), NONE);
        leavesNone(x, "best(1, 1): none", () -> x.best(1, 1), NONE);
        x.roots(1, 9);
        leavesNone(x, "best(0, 0), though STUCK", () -> x.best(0, 0), 9);
        leavesNone(x, "best(1, 0)", () -> x.best(1, 0), 0);
        leavesNone(x, "best(1, 1)", () -> x.best(1, 1), 0);
        due("held(4)", x.held(4), NONE);

        says("BAD: what is not 0 or 1, i is below 0 or no WORD.");
        PathReader none = new PathReader();
        refused(none, "best(1, 0) of no WORDS", () -> none.best(1, 0), BAD);
        int[][] bad = {{0, 2}, {0, -1}, {1, 2}, {1, -1}, {-1, 0}, {2, 0}, {7, 0}, {MOST, 0}, {LEAST, 0}, {0, MOST},
            {0, LEAST}, {-1, 2}};
        for (int[] a : bad) {
            refused(x, "best(" + a[0] + ", " + a[1] + ")", () -> x.best(a[0], a[1]), BAD);
        }
        says("the ANALYSIS of all WORDS of the least COST, of such that whose row is first");
        PathReader tie = told("f0 1 0;o1 0;r0 0 0 0;r0 0 1 0;r1 1 1 0;w0 0;");
        due("best(1, 0)", tie.best(1, 0), 0);
        due("best(1, 1)", tie.best(1, 1), 0);
        due("best(2, 1)", tie.best(2, 1), 1);
        tie.rules(0, 0, 1, 1);
        due("best(1, 1)", tie.best(1, 1), 2);
        tie.rules(0, 0, 0, 1);
        due("best(1, 0)", tie.best(1, 0), 1);
        due("REPAIR is none of BEST's", tie.best(0, 0), 0);

        says("WAYS: how many ANALYSES of all WORDS there are.");
        PathReader ways = new PathReader();
        leavesNone(ways, "ways() of no WORDS", ways::ways, 0);
        ways.entry(0, 1, 0);
        for (int k = 0; k < 8; k++) {
            ways.rules(k / 4, k / 2 % 2, k % 2, 9);
        }
        ways.roots(1, 9);
        int[] trees = {0, 1, 2, 7, 30, 143, 728};
        for (int n = 1; n <= 6; n++) {
            ways.hears(0);
            leavesNone(ways, "ways() of " + n, ways::ways, trees[n] << n);
        }
    }

    private static void textBytes() {
        says("A byte (0 .. 127) comes behind THE TEXT: how many it has. BAD; FULL: 120.");
        PathReader x = new PathReader();
        int[] bad = {-1, 128, 255, 256, MOST, LEAST};
        for (int c : bad) {
            refused(x, "type(" + c + ")", () -> x.type(c), BAD);
        }
        leavesNone(x, "type(0)", () -> x.type(0), 1);
        leavesNone(x, "type(127)", () -> x.type(127), 2);
        for (int k = 3; k <= 120; k++) {
            due("type(59)", x.type(59), k);
        }
        refused(x, "type(59), the 121st", () -> x.type(59), FULL);
        refused(x, "type(128), the 121st: BAD is first", () -> x.type(128), BAD);
        due("told(7)", x.told(7), 120);

        says("THE TEXT is empty: how many it had.");
        leavesNone(x, "clear()", x::clear, 120);
        leavesNone(x, "clear() of none", x::clear, 0);
        due("does(): nothing of it is left", x.does(), -10);
        due("type(101)", x.type(101), 1);

        says("THE TEXT (120 bytes at most)");
        StringBuilder text = new StringBuilder();
        for (int k = 0; k < 30; k++) {
            text.append("o1-;");
        }
        PathReader full = new PathReader();
        due("does() of 120 bytes", tell(full, text.toString()), 30);
        due("told(7)", full.told(7), 120);
        text.replace(116, 120, "o19;");
        due("does() of 120 bytes, the last number at their end", tell(full, text.toString()), -10 - 119);
        text.replace(116, 120, "o1 9");
        due("does() of 120 bytes, the last ; missing", tell(full, text.toString()), -130);
        text.replace(112, 120, "o   1 8;");
        due("does() of 120 bytes", tell(full, text.toString()), 29);
        due("roots(1, 0)", full.roots(1, 0), 8);
    }

    private static void textNumbers() {
        says("e s (entry with no second SORT), f s z x (entry with a second one z, EXTRA x)");
        PathReader x = told("e5;f5 0 9;f 0 5 0;");
        int[] want = {5, NONE, 0, 5, 0, 9, 0, 5, 0};
        for (int k = 0; k < 9; k++) {
            due("of(" + k / 3 + ", " + k % 3 + ")", x.of(k / 3, k % 3), want[k]);
        }
        says("r h d i v (rules), o s v (roots), v perhaps - alone for NONE");
        PathReader y = told("r5 4 1 9;r0 5 0 0;o5 9;");
        due("rule(5, 4, 1)", y.rule(5, 4, 1), 9);
        due("rule(0, 5, 0)", y.rule(0, 5, 0), 0);
        due("does", tell(y, "r5 4 1 -;r0 5 0-;o 0 -;"), 3);
        due("rule(5, 4, 1)", y.rule(5, 4, 1), NONE);
        due("rule(0, 5, 0)", y.rule(0, 5, 0), NONE);
        due("roots(0, 0)", y.roots(0, 0), NONE);
        due("roots(5, 0)", y.roots(5, 0), 9);
        String[] minus = {"r-0 0 0;", "r0-0 0;", "r0 0-0;", "o-0;", "e-;", "f-1 0;", "f0-0;", "f0 1-;", "w-;", "w0-;",
            "o0-1;", "o0--;", "o0 1-;", "r0 0 0-1;", "o0-9;", "o-1;"};
        int[] faults = {1, 2, 4, 1, 1, 1, 2, 4, 1, 2, 3, 3, 4, 7, 3, 1};
        for (int k = 0; k < minus.length; k++) {
            due("does() of " + minus[k], tell(y, minus[k]), -10 - faults[k]);
        }

        says("w n .. (hears, 1 to 6 of them)");
        PathReader w = told("e0;r0 0 1 0;");
        due("w of none", tell(w, "w;"), -11);
        due("w of none, blanks", tell(w, "w  ;"), -13);
        due("w of one", tell(w, "w0;"), 1);
        due("held(0)", w.held(0), 1);
        w.silence();
        due("w of six", tell(w, "w0 0 0 0 0 0;"), 1);
        due("held(0)", w.held(0), 6);
        w.silence();
        due("w of seven", tell(w, "w0 0 0 0 0 0 0;"), -10 - 13);
        due("held(0)", w.held(0), 0);

        says("Numbers have 1 or 2 figures");
        PathReader z = told("e05;f 00 05 09;r 00 05 01 09;o 05 09;e0;");
        due("of(0, 0)", z.of(0, 0), 5);
        due("of(1, 2)", z.of(1, 2), 9);
        due("rule(0, 5, 1)", z.rule(0, 5, 1), 9);
        due("roots(5, 0)", z.roots(5, 0), 9);
        due("a third figure", tell(z, "e005;"), -10 - 3);
        due("w of 01 and 2", tell(z, "w01 2;"), 1);
        due("word(1, 0)", z.word(1, 0), 1);
        due("word(2, 0)", z.word(2, 0), 2);
        PathReader ten = told("e0;e0;e0;e0;e0;e0;e0;e0;e0;e0;e0;e0;r0 0 1 0;w11 10;");
        due("word(1, 0)", ten.word(1, 0), 11);
        due("word(2, 0)", ten.word(2, 0), 10);
    }

    private static void textBlanks() {
        says("blanks (32) may stand anywhere but within a number, needed only where figures of two numbers would else");
        PathReader x = new PathReader();
        due("blanks everywhere", tell(x, "  e  1  ;  f  0  2  1  ;  r  0  1  0  0  ;  o  1  -  ;  w  0  1  ;  "), 5);
        due("told(3)", x.told(3), 2);
        due("held(0)", x.held(0), 2);
        due("blanks nowhere else", tell(x, "e1;f0 2 1;r0 1 0-;o1-;w0 1;"), 5);
        due("held(0)", x.held(0), 4);
        due("two figures side by side are one number", tell(x, "o11;"), -13);
        due("within a number: two numbers", tell(x, "e 0 5;"), -14);
        int[] odd = {0, 9, 10, 13, 31, 33, 127};
        for (int c : odd) {
            due("byte " + c + " is no blank", tell(x, "e0" + (char) c + ";"), -12);
        }
        says("each ended by ;");
        due("two ;", tell(x, "e0;;"), -13);
        due("; alone", tell(x, ";"), -10);
        due("; missing between", tell(x, "e0e0;"), -12);
        due("; missing at the end", tell(x, "e0;e0"), -15);
        due("told(3): nothing is done", x.told(3), 4);
    }

    private static void textRefused() {
        says("THE TEXT is read whole first; an ORDER (a WORD) that its call would refuse then ends all, nothing is done.");
        PathReader x = told("e0;r0 0 1 1;w0;");
        String[] ends = {"e6;", "e99;", "f6 0 0;", "f0 6 0;", "f0 0 0;", "f0 1 10;", "r6 0 0 0;", "r0 6 0 0;",
            "r0 0 2 0;", "r0 0 0 10;", "o6 0;", "o0 10;", "w1;", "w99;", "w0 0 1;", "w0 0 0 0 0 0;"};
        long was = 0;
        for (String order : ends) {
            x.clear();
            for (char c : order.toCharArray()) {
                x.type(c);
            }
            was = x.digest();
            due("does() of " + order, x.does(), -1000);
            due("digest() behind " + order, x.digest(), was);
        }
        says("-1000 less the number (0 on) of the ORDER that ends all (no S).");
        String[] later = {"o1 3;e6;", "e1;e1;w1 2 3;", "e1;w1;w0 1 2;w0;", "r0 0 1 2;o0-;e1;w0 0;w0 0 0 0;"};
        int[] numbers = {1, 2, 2, 4};
        PathReader y = told("e0;r0 0 1 1;w0;");
        for (int k = 0; k < later.length; k++) {
            tell(y, "x");
            y.clear();
            for (char c : later[k].toCharArray()) {
                y.type(c);
            }
            was = y.digest();
            due("does() of " + later[k], y.does(), -1000 - numbers[k]);
            due("digest() behind " + later[k], y.digest(), was);
        }
        due("WORDS to the 6th", tell(y, "w0 0 0 0;w0;"), 2);
        due("the 7th", tell(y, "o0 0;w0;"), -1001);
        PathReader twelve = told("e0;e0;e0;e0;e0;e0;e0;e0;e0;e0;e0;");
        due("the 12th ENTRY, the 13th", tell(twelve, "e0;e0;"), -1001);
        due("told(3)", twelve.told(3), 11);
        due("the 12th ENTRY", tell(twelve, "e0;w11;"), 2);
        due("the 13th", tell(twelve, "e0;"), -1000);
        due("a FAULT is ahead of it", tell(twelve, "e0;e"), -10 - 4);
        StringBuilder many = new StringBuilder("e6;");
        for (int k = 1; k < 40; k++) {
            many.insert(0, k < 29 ? "o1-;" : "");
        }
        due("the 29th", tell(new PathReader(), many.toString()), -1000 - 28);

        says("By THE TEXT nothing counts.");
        due("told(0)", x.told(0) + y.told(0) + twelve.told(0), 0);
        due("told(1)", x.told(1) + y.told(1) + twelve.told(1), 0);
        due("told(2)", x.told(2) + y.told(2) + twelve.told(2), 0);

        says("NONE: it is STUCK (by this or a WORD ahead)");
        PathReader stuck = told("e0;e1;w0 1 0;w0;");
        due("held(0)", stuck.held(0), 4);
        due("held(1)", stuck.held(1), 1);
    }

    private static void textFaults() {
        says("FAULT: the place of the first byte that can not stand there (a third figure; a 7th number of w: its first figure)");
        String[] texts = {"e000;", "e 000;", "f0 1 000;", "r0 0 0 000;", "o0 000;", "w000;", "w0 0 000;",
            "w0 0 0 0 0 0 5;", "w0 0 0 0 0 0 55;", "w 0 0 0 0 0 00 0;", "w0 0 0 0 0 000;", "e0 0;", "f0 1 0 0;",
            "r0 0 0 0 0;", "o0 0 0;", "f0 1;", "r0 0 0;", "o0;", "e;", "a", "E0;", "0;", "-", "e0;x", "e0; ;", "ee0;",
            "e0;000", "w0;w;"};
        int[] faults = {3, 4, 7, 9, 5, 3, 7, 13, 13, 15, 13, 3, 7, 9, 5, 4, 6, 2, 1, 0, 0, 0, 0, 3, 4, 1, 3, 4};
        PathReader x = told("e0;r0 0 1 1;w0;");
        faultsAre(x, texts, faults);

        says("the TEXT's length, if it ends too early (an empty one, too)");
        String[] early = {"", " ", "   ", "e", "e ", "e0", "e0 ", "e00", "f", "f0", "f0 1", "f0 1 0", "r", "r0 0 0",
            "r0 0 0 0", "r0 0 0-", "o", "o0", "o0 ", "o0-", "w", "w0", "w0 0 0 0 0 0", "w0 0 0 0 0 0 ", "e0;e", "e0; w"};
        int[] lengths = new int[early.length];
        for (int k = 0; k < early.length; k++) {
            lengths[k] = early[k].length();
        }
        faultsAre(told("e0;r0 0 1 1;w0;"), early, lengths);

        says("If there is one, nothing is done. .. -10 less the FAULT (no S)");
        PathReader y = told("e0;r0 0 1 1;w0;");
        String text = "e1;o1 5;w0 0;sounds";
        for (char c : text.toCharArray()) {
            y.type(c);
        }
        y.clear();
        for (char c : text.toCharArray()) {
            y.type(c);
        }
        long was = y.digest();
        due("does()", y.does(), -10 - 13);
        due("digest()", y.digest(), was);
        due("does() again: THE TEXT stays", y.does(), -10 - 13);
        due("of a new object", new PathReader().does(), -10);
    }

    private static void faultsAre(PathReader first, String[] texts, int[] faults) {
        PathReader x = first;
        int calls = 0;
        for (int k = 0; k < texts.length; k++) {
            calls += texts[k].length() + 4;
            if (calls > 400) {
                x = told("e0;r0 0 1 1;w0;");
                calls = 0;
            }
            x.clear();
            for (char c : texts[k].toCharArray()) {
                x.type(c);
            }
            long was = x.digest();
            due("does() of '" + texts[k] + "'", x.does(), -10 - faults[k]);
            due("digest() behind '" + texts[k] + "'", x.digest(), was);
        }
    }

    private static void states() {
        says("each call told S, if it is not refused, leaves one, also if nothing becomes other by it, to go back to");
        PathReader x = told("e0;r0 0 1 1;w0;");
        x.clear();
        x.type('e');
        x.type('1');
        x.type(';');
        leavesOne(x, "rules()", () -> x.rules(0, 0, 1, 1), 1);
        leavesOne(x, "roots()", () -> x.roots(0, 0), 0);
        leavesOne(x, "entry()", () -> x.entry(0, NONE, 0), 1);
        leavesOne(x, "sets()", () -> x.sets(2, 6), 6);
        leavesOne(x, "hears()", () -> x.hears(0), 0);
        leavesOne(x, "unhears()", x::unhears, 0);
        leavesOne(x, "silence()", x::silence, 1);
        leavesOne(x, "rereads()", x::rereads, 0);
        leavesOne(x, "does()", x::does, 1);
        x.silence();
        leavesOne(x, "silence() of no WORDS", x::silence, 0);
        x.back();
        leavesNone(x, "rule()", () -> x.rule(0, 0, 1), 1);
        leavesNone(x, "of()", () -> x.of(0, 1), NONE);
        leavesNone(x, "word()", () -> x.word(1, 0), 0);
        leavesNone(x, "held()", () -> x.held(0), 1);
        leavesNone(x, "best()", () -> x.best(0, 0), 0);
        leavesNone(x, "ways()", x::ways, 1);
        leavesNone(x, "sound()", x::sound, 1);
        leavesNone(x, "type()", () -> x.type(' '), 4);
        leavesNone(x, "clear()", x::clear, 4);
        leavesNone(x, "told()", () -> x.told(3), 1);
        leavesNone(x, "digest()", () -> (int) (x.digest() & 0), 0);
        leavesNone(x, "does() of a FAULT", x::does, -10);

        says("ORDERS are done (THE TEXT stays): how many. S (one STATE for all).");
        PathReader y = new PathReader();
        due("does()", tell(y, "e0;r0 0 1 1;w0 0 0;o1 1;"), 4);
        due("told(8)", y.told(8), 1);
        due("told(7)", y.told(7), 24);
        due("back()", y.back(), 0);
        due("told(3)", y.told(3), 0);
        due("held(0)", y.held(0), 0);
        due("rule(0, 0, 1)", y.rule(0, 0, 1), NONE);
        due("does(), once more", y.does(), 4);
        due("held(0)", y.held(0), 3);

        says("(all but THE TEXT and how often refused)");
        y.unhears();
        y.type('x');
        y.told(9);
        y.hears(5);
        hearAll(y, 0, 0, 0, 0, 0);
        y.back();
        y.back();
        due("told(7)", y.told(7), 25);
        due("told(0)", y.told(0), 2);
        due("told(2)", y.told(2), 1);
    }

    private static void refusals() {
        says("Refused (any call, getters, too), changing nothing but how often, the first of: BAD ..; NO ..; FULL");
        PathReader x = told("e0;r0 0 1 1;");
        refused(x, "unhears()", x::unhears, NO);
        x.hears(0);
        x.hears(0);
        refused(x, "rules()", () -> x.rules(6, 6, 2, 10), BAD);
        refused(x, "roots()", () -> x.roots(6, 10), BAD);
        refused(x, "entry()", () -> x.entry(6, 6, 10), BAD);
        refused(x, "sets()", () -> x.sets(3, 100), BAD);
        refused(x, "rule()", () -> x.rule(6, 6, 2), BAD);
        refused(x, "of()", () -> x.of(1, 3), BAD);
        refused(x, "hears()", () -> x.hears(1), BAD);
        refused(x, "word()", () -> x.word(3, 6), BAD);
        refused(x, "held()", () -> x.held(7), BAD);
        refused(x, "best()", () -> x.best(3, 2), BAD);
        refused(x, "type()", () -> x.type(128), BAD);
        refused(x, "told()", () -> x.told(9), BAD);
        hearAll(x, 0, 0, 0, 0);
        refused(x, "hears(), FULL", () -> x.hears(0), FULL);
        due("told(0)", x.told(0), 12);
        due("told(1)", x.told(1), 1);
        due("told(2)", x.told(2), 1);
        due("back()", x.back(), 5);
        due("word(5, 2): what is held stays", x.word(5, 2), 4);

        says("The last WORD is taken away: .. how many WORDS are left. S. NO: there is none.");
        PathReader y = new PathReader();
        refused(y, "unhears() at first", y::unhears, NO);
        y.entry(0, NONE, 0);
        y.hears(0);
        due("unhears()", y.unhears(), 0);
        refused(y, "unhears(), none left", y::unhears, NO);
        y.hears(0);
        y.silence();
        refused(y, "unhears() behind silence()", y::unhears, NO);

        says("what was held, reckoned ahead of it is again, as it was then");
        PathReader z = told("e1;f0 2 1;e0;r0 1 0 0;r1 2 1 0;o1 5;w0 1;");
        z.hears(2);
        z.rules(0, 1, 0, 9);
        z.sets(0, 0);
        z.unhears();
        int[] want = {2, 0, 0, 0, 0, 2, 1};
        for (int what = 0; what <= 6; what++) {
            due("held(" + what + ")", z.held(what), want[what]);
        }
        due("word(1, 2)", z.word(1, 2), 2);
        due("word(2, 1)", z.word(2, 1), 0);
        due("word(3, 0)", z.word(3, 0), BAD);
        z.unhears();
        due("word(1, 2)", z.word(1, 2), 0);
        due("held(4)", z.held(4), 5);

        says("All WORDS are taken away: how many there were. S.");
        PathReader six = told("e0;r0 0 1 1;w0 0 0 0 0 0;");
        due("silence() of 6", six.silence(), 6);
        due("silence() of none", six.silence(), 0);
        due("told(8)", six.told(8), 3);
        int[] none = {0, 0, 0, 0, NONE, NONE, NONE};
        for (int what = 0; what <= 6; what++) {
            due("held(" + what + ")", six.held(what), none[what]);
        }
    }

    private static void gettersRefused() {
        says("PRICE of the RULE; NONE. BAD.");
        PathReader x = told("e0;f1 2 3;r5 5 1 9;r0 0 1 0;w0;");
        due("rule(5, 5, 1)", x.rule(5, 5, 1), 9);
        due("rule(5, 5, 0)", x.rule(5, 5, 0), NONE);
        due("rule(0, 0, 1)", x.rule(0, 0, 1), 0);
        int[][] rules = {{6, 0, 0}, {-1, 0, 0}, {0, 6, 0}, {0, -1, 0}, {0, 0, 2}, {0, 0, -1}, {MOST, 0, 0},
            {LEAST, 0, 0}, {0, MOST, 0}, {0, LEAST, 0}, {0, 0, MOST}, {0, 0, LEAST}, {6, 6, 2}};
        for (int[] a : rules) {
            refused(x, "rule(" + a[0] + ", " + a[1] + ", " + a[2] + ")", () -> x.rule(a[0], a[1], a[2]), BAD);
        }
        says("Of ENTRY e: its SORT (what 0), its second one (1; NONE), EXTRA (2). BAD.");
        due("of(0, 1)", x.of(0, 1), NONE);
        due("of(0, 2)", x.of(0, 2), 0);
        due("of(1, 1)", x.of(1, 1), 2);
        int[][] entries = {{2, 0}, {-1, 0}, {0, 3}, {0, -1}, {12, 0}, {MOST, 0}, {LEAST, 0}, {0, MOST}, {0, LEAST},
            {-1, -1}};
        for (int[] a : entries) {
            refused(x, "of(" + a[0] + ", " + a[1] + ")", () -> x.of(a[0], a[1]), BAD);
        }
        PathReader empty = new PathReader();
        refused(empty, "of(0, 0) with no ENTRIES", () -> empty.of(0, 0), BAD);

        says("Of WORD i (1 on): .. BAD.");
        int[][] words = {{0, 0}, {2, 0}, {-1, 0}, {1, 6}, {1, -1}, {7, 0}, {MOST, 0}, {LEAST, 0}, {1, MOST}, {1, LEAST},
            {0, 6}};
        for (int[] a : words) {
            refused(x, "word(" + a[0] + ", " + a[1] + ")", () -> x.word(a[0], a[1]), BAD);
        }
        refused(empty, "word(1, 0) of no WORDS", () -> empty.word(1, 0), BAD);
        refused(empty, "word(0, 0) of no WORDS", () -> empty.word(0, 0), BAD);

        says("WORDS (what 0), whether it is STUCK (1), .. BAD.");
        int[] whats = {7, -1, MOST, LEAST};
        for (int what : whats) {
            refused(x, "held(" + what + ")", () -> x.held(what), BAD);
        }
        says("bytes of THE TEXT (7), STATES (8). BAD.");
        int[] tolds = {9, -1, MOST, LEAST};
        for (int what : tolds) {
            refused(x, "told(" + what + ")", () -> x.told(what), BAD);
        }
        PathReader counts = told("e0;r0 0 1 1;");
        int[] want = {0, 0, 0, 1, 1, 2, 6, 12, 1};
        for (int what = 0; what <= 8; what++) {
            due("told(" + what + ")", counts.told(what), want[what]);
        }
    }

    private static void wordAndHeldNone() {
        says("(1, 2: NONE, if none is held), .. COST of what was held behind it (5; NONE: STUCK)");
        PathReader x = told("e1;f0 2 1;e0;r0 1 0 0;r1 2 1 0;o1 5;");
        x.sets(2, 5);
        hearAll(x, 0, 1, 2, 0);
        int[][] want = {{0, NONE, NONE, 0, 0, 5}, {1, NONE, NONE, 0, 0, 0}, {2, NONE, NONE, 6, 1, 2},
            {0, NONE, NONE, 0, 0, NONE}};
        for (int k = 0; k < 24; k++) {
            due("word(" + (1 + k / 6) + ", " + k % 6 + "), STUCK", x.word(1 + k / 6, k % 6), want[k / 6][k % 6]);
        }
        says("COST of what is held, as reckoned (4; NONE: none), the ROOT (5; NONE), the deepest LEVEL (6: ..; NONE: ..)");
        int[] stuck = {4, 1, 1, 6, NONE, NONE, NONE};
        for (int what = 0; what <= 6; what++) {
            due("held(" + what + "), STUCK", x.held(what), stuck[what]);
        }
        x.unhears();
        int[] fine = {3, 0, 1, 6, 2, 3, 2};
        for (int what = 0; what <= 6; what++) {
            due("held(" + what + ")", x.held(what), fine[what]);
        }
        PathReader none = new PathReader();
        int[] first = {0, 0, 0, 0, NONE, NONE, NONE};
        for (int what = 0; what <= 6; what++) {
            due("held(" + what + ") of no WORDS", none.held(what), first[what]);
        }
        says("HEADS from a WORD up to the ROOT, at most");
        PathReader chain = told("e0;r0 0 1 0;");
        for (int n = 1; n <= 6; n++) {
            chain.hears(0);
            due("held(6) of a chain of " + n, chain.held(6), n - 1);
        }
        PathReader flat = told("e0;e1;r0 1 1 0;w0 1 1 1 1 1;");
        due("held(6), all on the ROOT", flat.held(6), 1);

        says("Whether the ANALYSIS that is held is one as all is now: 1, 0 (none is held: 0).");
        due("sound() of no WORDS", none.sound(), 0);
        due("sound()", flat.sound(), 1);
        flat.rules(0, 1, 1, 9);
        due("sound(), another PRICE", flat.sound(), 1);
        flat.rules(0, 1, 1, NONE);
        due("sound(), no RULE", flat.sound(), 0);
        flat.rules(0, 1, 1, 0);
        flat.roots(0, NONE);
        due("sound(), no ROOT PRICE", flat.sound(), 0);
        flat.roots(0, 9);
        due("sound()", flat.sound(), 1);
        x.hears(0);
        due("sound(), STUCK", x.sound(), 0);
        PathReader other = told("f0 1 9;o1 9;w0;");
        due("sound()", other.sound(), 1);
        other.roots(0, NONE);
        due("sound(): READING 0 no more, READING 1 is not what is held", other.sound(), 0);
    }

    private static void backs() {
        says("6 at most, older ones lost");
        PathReader x = new PathReader();
        for (int v = 10; v < 30; v++) {
            x.sets(2, v);
            due("told(8)", x.told(8), Math.min(6, v - 9));
        }
        for (int k = 0; k < 6; k++) {
            due("back()", x.back(), 5 - k);
            due("told(6)", x.told(6), 28 - k);
            due("told(8)", x.told(8), 5 - k);
        }
        refused(x, "back(), the older ones are lost", x::back, NO);
        due("told(6)", x.told(6), 23);

        says("A STATE back: how many can be yet. NO: none.");
        PathReader y = new PathReader();
        refused(y, "back() at first", y::back, NO);
        y.sets(2, 1);
        due("back()", y.back(), 0);
        due("told(6)", y.told(6), 6);
        refused(y, "back() once more", y::back, NO);
        // forth and back again and again, so that the six wrap round at each of their places
        for (int round = 0; round < 14; round++) {
            for (int k = 0; k < 7; k++) {
                y.sets(2, 10 + k);
            }
            for (int k = 0; k < 5; k++) {
                due("back() of round " + round, y.back(), 5 - k);
            }
            due("told(6) of round " + round, y.told(6), 11);
        }
        due("told(8)", y.told(8), 1);
        due("back()", y.back(), 0);
        due("told(6)", y.told(6), 10);

        says("to go back to (all but THE TEXT and how often refused)");
        PathReader z = told("e1;f0 2 1;e0;r0 1 0 0;r1 2 1 0;o1 5;w0 1 2;");
        long was = z.digest();
        z.silence();
        z.hears(2);
        z.roots(1, NONE);
        z.entry(5, NONE, 0);
        z.rereads();
        z.back();
        z.back();
        z.back();
        z.back();
        z.back();
        due("digest()", z.digest(), was);
        z.sets(1, 3);
        z.rereads();
        due("held(3)", z.held(3), 9);
        due("held(2)", z.held(2), 1);
        long stumbled = z.digest();
        z.sets(1, 0);
        z.rereads();
        due("held(3)", z.held(3), 0);
        z.back();
        z.back();
        due("digest(): REPAIRS and STUMBLES come back", z.digest(), stumbled);
        z.back();
        z.back();
        due("digest()", z.digest(), was);
        due("unhears()", z.unhears(), 2);
        due("word(1, 2), as it was then", z.word(1, 2), 2);
    }

    private static void digests() {
        says("h = 2605; then h = 31 h + v for each v");
        BigInteger h = BigInteger.valueOf(2605);
        int[] first = {0, 0, 0, 0, 1, 2, 6, 0, 0, 0, 0, 0, 0, NONE, NONE, NONE, 0, NONE, NONE, NONE, NONE, NONE};
        for (int v : first) {
            h = h.multiply(BigInteger.valueOf(31)).add(BigInteger.valueOf(v));
        }
        for (int k = 0; k < 72; k++) {
            h = h.multiply(BigInteger.valueOf(31)).subtract(BigInteger.ONE);
        }
        h = h.multiply(BigInteger.valueOf(31));
        PathReader x = new PathReader();
        due("digest() of a new object, wrapped to 64 bits", x.digest(), h.longValue());
        due("digest() again", x.digest(), h.longValue());
        due("told(0)", x.told(0), 0);
        // 12 ENTRIES, 6 WORDS, all as large as may be
        PathReader y = told("f4 0 9;f5 2 9;r0 2 1 9;o0 9;");
        for (int e = 2; e < 12; e++) {
            y.entry(5, 4, 9);
        }
        y.sets(0, 3);
        hearAll(y, 0, 1, 1, 1, 1, 1, 1);
        long due = 2605;
        for (int what = 0; what <= 8; what++) {
            due = 31 * due + y.told(what);
        }
        for (int what = 0; what <= 6; what++) {
            due = 31 * due + y.held(what);
        }
        for (int k = 0; k < 36; k++) {
            due = 31 * due + y.word(1 + k / 6, k % 6);
        }
        for (int k = 0; k < 36; k++) {
            due = 31 * due + y.of(k / 3, k % 3);
        }
        int[] roots = {9, NONE, NONE, NONE, NONE, NONE};
        for (int v : roots) {
            due = 31 * due + v;
        }
        for (int k = 0; k < 72; k++) {
            due = 31 * due + y.rule(k / 12, k / 2 % 6, k % 2);
        }
        due = 31 * due + y.sound();
        due("digest() of the most", y.digest(), due);
        due("told(2)", y.told(2), 1);
    }
}
