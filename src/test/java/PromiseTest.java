/** Each promise of the document by cases reckoned by hand: ordinary ones, edges, wrong inputs. */
public final class PromiseTest {
    private static final int NONE = PathReader.NONE, BAD = PathReader.BAD, NO = PathReader.NO, FULL = PathReader.FULL;
    private static int wrong = 0;
    private static int promise = 0;

    private static void due(String call, long got, long want) {
        if (got != want) {
            wrong++;
            System.out.println("promise " + promise + ": " + call + " answered " + got + ", due is " + want);
        }
    }

    public static void main(String[] args) {
        newObject();
        rules();
        roots();
        entry();
        sets();
        rule();
        of();
        hears();
        hearsTies();
        hearsFarBack();
        stuck();
        unhears();
        silence();
        rereads();
        word();
        held();
        best();
        ways();
        sound();
        typeAndClear();
        doesOrders();
        doesFaults();
        doesEnds();
        back();
        told();
        digest();
        System.out.println(wrong == 0 ? "all answers are as due" : wrong + " answers are not as due");
        if (wrong != 0) {
            System.exit(1);
        }
    }

    /** A noun (ENTRY 0, SORT 1), a verb or participle (ENTRY 1, SORT 0 or 2), a verb (ENTRY 2, SORT 0). */
    private static PathReader gardenPath() {
        PathReader x = new PathReader();
        x.entry(1, NONE, 0);
        x.entry(0, 2, 1);
        x.entry(0, NONE, 0);
        x.rules(0, 1, 0, 0);
        x.rules(1, 2, 1, 0);
        x.roots(1, 5);
        return x;
    }

    /** SORT 0 alone, hanging on either side for 1; ENTRY 0. */
    private static PathReader plain() {
        PathReader x = new PathReader();
        x.entry(0, NONE, 0);
        x.rules(0, 0, 0, 1);
        x.rules(0, 0, 1, 1);
        return x;
    }

    private static int tell(PathReader x, String text) {
        x.clear();
        for (int k = 0; k < text.length(); k++) {
            x.type(text.charAt(k));
        }
        return x.does();
    }

    private static void newObject() {
        promise = 1;
        PathReader x = new PathReader();
        int[] want = {0, 0, 0, 0, 1, 2, 6, 0, 0};
        for (int what = 0; what < want.length; what++) {
            due("told(" + what + ")", x.told(what), want[what]);
        }
        int[] heldWant = {0, 0, 0, 0, NONE, NONE, NONE};
        for (int what = 0; what < heldWant.length; what++) {
            due("held(" + what + ")", x.held(what), heldWant[what]);
        }
        for (int h = 0; h < 6; h++) {
            for (int d = 0; d < 6; d++) {
                due("rule(h, d, 0)", x.rule(h, d, 0), NONE);
                due("rule(h, d, 1)", x.rule(h, d, 1), NONE);
            }
            due("roots(h, 3)", x.roots(h, 3), h == 0 ? 0 : NONE);
        }
        due("of(0, 0)", x.of(0, 0), BAD);
        due("word(1, 0)", x.word(1, 0), BAD);
        due("back() of a new one", new PathReader().back(), NO);
    }

    private static void rules() {
        promise = 2;
        PathReader x = new PathReader();
        due("rules(5, 5, 1, 9)", x.rules(5, 5, 1, 9), NONE);
        due("rules(5, 5, 1, 0)", x.rules(5, 5, 1, 0), 9);
        due("rules(5, 5, 1, -1)", x.rules(5, 5, 1, -1), 0);
        due("rules(5, 5, 1, -1)", x.rules(5, 5, 1, -1), NONE);
        due("told(8)", x.told(8), 4);
        due("rules(0, 1, 0, 4)", x.rules(0, 1, 0, 4), NONE);
        due("rule(1, 0, 0)", x.rule(1, 0, 0), NONE);
        due("rule(0, 1, 1)", x.rule(0, 1, 1), NONE);
        int[][] bad = {{6, 0, 0, 0}, {-1, 0, 0, 0}, {0, 6, 0, 0}, {0, -1, 0, 0}, {0, 0, 2, 0}, {0, 0, -1, 0},
            {0, 0, 0, 10}, {0, 0, 0, -2}, {Integer.MIN_VALUE, 0, 0, 0}, {0, Integer.MAX_VALUE, 0, 0}};
        for (int[] a : bad) {
            due("rules of wrong numbers", x.rules(a[0], a[1], a[2], a[3]), BAD);
        }
        due("told(0)", x.told(0), bad.length);
        due("told(8)", x.told(8), 5);
    }

    private static void roots() {
        promise = 3;
        PathReader x = new PathReader();
        due("roots(0, -1)", x.roots(0, -1), 0);
        due("roots(0, 9)", x.roots(0, 9), NONE);
        due("roots(5, 0)", x.roots(5, 0), NONE);
        due("roots(5, 1)", x.roots(5, 1), 0);
        due("roots(0, 0)", x.roots(0, 0), 9);
        due("told(8)", x.told(8), 5);
        due("roots(6, 0)", x.roots(6, 0), BAD);
        due("roots(-1, 0)", x.roots(-1, 0), BAD);
        due("roots(0, 10)", x.roots(0, 10), BAD);
        due("roots(0, -2)", x.roots(0, -2), BAD);
        due("told(0)", x.told(0), 4);
        due("told(8)", x.told(8), 5);
    }

    private static void entry() {
        promise = 4;
        PathReader x = new PathReader();
        int[][] bad = {{6, -1, 0}, {-1, -1, 0}, {-1, 0, 0}, {0, 6, 0}, {0, -2, 0}, {3, 3, 0}, {0, 1, 10}, {0, 1, -1},
            {0, -1, 1}, {0, -1, -1}};
        for (int[] a : bad) {
            due("entry of wrong numbers", x.entry(a[0], a[1], a[2]), BAD);
        }
        for (int e = 0; e < 12; e++) {
            due("entry(5, 0, 9)", x.entry(5, 0, 9), e);
        }
        due("entry(0, -1, 0), the 13th", x.entry(0, -1, 0), FULL);
        due("entry(0, 0, 0), the 13th", x.entry(0, 0, 0), BAD);
        due("told(2)", x.told(2), 1);
        due("told(3)", x.told(3), 12);
        due("told(8)", x.told(8), 6);
    }

    private static void sets() {
        promise = 5;
        PathReader x = new PathReader();
        due("sets(0, 3)", x.sets(0, 3), 1);
        due("sets(0, 0)", x.sets(0, 0), 3);
        due("sets(1, 9)", x.sets(1, 9), 2);
        due("sets(2, 99)", x.sets(2, 99), 6);
        due("sets(2, 0)", x.sets(2, 0), 99);
        due("told(4)", x.told(4), 0);
        due("told(5)", x.told(5), 9);
        due("told(6)", x.told(6), 0);
        int[][] bad = {{0, 4}, {0, -1}, {1, 10}, {1, -1}, {2, 100}, {2, -1}, {3, 0}, {-1, 0}};
        for (int[] a : bad) {
            due("sets of wrong numbers", x.sets(a[0], a[1]), BAD);
        }
        due("told(0)", x.told(0), bad.length);
        due("told(8)", x.told(8), 5);
    }

    private static void rule() {
        promise = 6;
        PathReader x = new PathReader();
        x.rules(2, 3, 1, 7);
        due("rule(2, 3, 1)", x.rule(2, 3, 1), 7);
        due("rule(2, 3, 0)", x.rule(2, 3, 0), NONE);
        due("rule(3, 2, 1)", x.rule(3, 2, 1), NONE);
        int[][] bad = {{6, 0, 0}, {-1, 0, 0}, {0, 6, 0}, {0, -1, 0}, {0, 0, 2}, {0, 0, -1}};
        for (int[] a : bad) {
            due("rule of wrong numbers", x.rule(a[0], a[1], a[2]), BAD);
        }
        due("told(0)", x.told(0), bad.length);
        due("told(8)", x.told(8), 1);
    }

    private static void of() {
        promise = 7;
        PathReader x = new PathReader();
        x.entry(4, NONE, 0);
        x.entry(2, 5, 8);
        int[][] want = {{4, NONE, 0}, {2, 5, 8}};
        for (int e = 0; e < 2; e++) {
            for (int what = 0; what < 3; what++) {
                due("of(" + e + ", " + what + ")", x.of(e, what), want[e][what]);
            }
        }
        due("of(2, 0)", x.of(2, 0), BAD);
        due("of(-1, 0)", x.of(-1, 0), BAD);
        due("of(0, 3)", x.of(0, 3), BAD);
        due("of(0, -1)", x.of(0, -1), BAD);
        due("told(0)", x.told(0), 4);
        due("told(8)", x.told(8), 2);
    }

    private static void hears() {
        promise = 8;
        PathReader x = gardenPath();
        due("hears(0)", x.hears(0), 0);
        due("held(4)", x.held(4), 5);
        due("hears(1), the ROOT comes to hang", x.hears(1), 0);
        due("word(1, 2)", x.word(1, 2), 2);
        due("held(4)", x.held(4), 0);
        // WORD 1 from HEAD 2 to 3, two WORDS back: 4; WORD 2 read as a participle, one WORD back: 2
        due("hears(2), led down the path", x.hears(2), 6);
        due("word(1, 2)", x.word(1, 2), 3);
        due("word(2, 1)", x.word(2, 1), 1);
        due("word(2, 2)", x.word(2, 2), 1);
        due("word(3, 2)", x.word(3, 2), 0);
        due("held(4): EXTRA 1, one WORD between", x.held(4), 2);
        due("word(3, 4): not above BOUND", x.word(3, 4), 0);
        due("hears(3)", x.hears(3), BAD);
        due("hears(-1)", x.hears(-1), BAD);
        due("told(8)", x.told(8), 6);
        PathReader full = plain();
        for (int n = 1; n <= 6; n++) {
            due("hears(0)", full.hears(0), 0);
        }
        due("hears(0), the 7th", full.hears(0), FULL);
        due("hears(1), the 7th", full.hears(1), BAD);
        due("told(2)", full.told(2), 1);
        due("held(0)", full.held(0), 6);
    }

    private static void hearsTies() {
        promise = 8;
        // COST 3 + REPAIR 0 against COST 0 + REPAIR 3: the one of the least REPAIR
        PathReader x = new PathReader();
        x.entry(0, 1, 0);
        x.entry(2, NONE, 0);
        x.rules(0, 2, 1, 3);
        x.rules(1, 2, 1, 0);
        x.roots(1, 0);
        x.sets(1, 3);
        due("hears(0)", x.hears(0), 0);
        due("word(1, 1): the lesser READING", x.word(1, 1), 0);
        due("hears(1)", x.hears(1), 0);
        due("held(4)", x.held(4), 3);
        x.sets(1, 2);
        due("rereads()", x.rereads(), 0);
        due("word(2, 3): a ROOT read otherwise is CHANGED", x.word(2, 3), 2);
        due("held(4)", x.held(4), 0);
        due("word(1, 1)", x.word(1, 1), 1);
        // of the same COST and REPAIR the one whose row is first: HEAD 0 ahead of HEAD 2
        PathReader y = plain();
        y.hears(0);
        y.hears(0);
        due("word(1, 2)", y.word(1, 2), 0);
        due("word(2, 2)", y.word(2, 2), 1);
        y.sets(0, 0);
        y.hears(0);
        due("word(3, 2): HEAD 1 ahead of HEAD 2 with no FARNESS", y.word(3, 2), 1);
    }

    private static void hearsFarBack() {
        promise = 8;
        // SORT 2 closes: WORD 1 can only be read as SORT 3 then, four WORDS back
        PathReader x = new PathReader();
        x.entry(0, 3, 1);
        x.entry(1, NONE, 0);
        x.entry(2, NONE, 0);
        x.rules(0, 1, 1, 0);
        x.rules(3, 1, 1, 0);
        x.rules(2, 3, 0, 0);
        x.roots(2, 0);
        x.hears(0);
        x.hears(1);
        x.hears(1);
        x.hears(1);
        due("hears(2)", x.hears(2), 8);
        due("word(1, 1)", x.word(1, 1), 1);
        due("word(1, 2)", x.word(1, 2), 5);
        due("word(5, 4)", x.word(5, 4), 1);
        // EXTRA 1; 1 and 2 WORDS between 1 and its own; 3 between 1 and 5
        due("word(5, 5)", x.word(5, 5), 7);
    }

    private static void stuck() {
        promise = 8;
        PathReader x = gardenPath();
        x.hears(2);
        due("hears(0): no noun hangs behind a verb", x.hears(0), NONE);
        x.rules(0, 1, 1, 0);
        due("hears(0): STUCK by a WORD ahead", x.hears(0), NONE);
        due("held(1)", x.held(1), 1);
        due("word(3, 3)", x.word(3, 3), 0);
        due("word(3, 4)", x.word(3, 4), 0);
        due("word(1, 5)", x.word(1, 5), 0);
        due("word(2, 5)", x.word(2, 5), NONE);
        due("word(1, 2)", x.word(1, 2), NONE);
        due("ways() as all is now", x.ways(), 1);
        due("told(8)", x.told(8), 6);
        x.silence();
        due("hears(2)", x.hears(2), 0);
    }

    private static void unhears() {
        promise = 9;
        PathReader x = gardenPath();
        due("unhears()", x.unhears(), NO);
        due("told(1)", x.told(1), 1);
        x.hears(0);
        x.hears(1);
        x.hears(2);
        x.rules(0, 1, 0, 9);
        due("unhears()", x.unhears(), 2);
        due("held(4): as it was then", x.held(4), 0);
        due("word(1, 2)", x.word(1, 2), 2);
        due("word(2, 1)", x.word(2, 1), 0);
        due("held(3)", x.held(3), 0);
        due("unhears()", x.unhears(), 1);
        due("held(5)", x.held(5), 1);
        due("unhears()", x.unhears(), 0);
        due("held(5)", x.held(5), NONE);
        due("told(8)", x.told(8), 6);
        due("back()", x.back(), 5);
        due("held(0)", x.held(0), 1);
        x.silence();
        x.hears(2);
        x.hears(0);
        x.hears(0);
        due("unhears(), STUCK yet", x.unhears(), 2);
        due("held(1)", x.held(1), 1);
        due("unhears()", x.unhears(), 1);
        due("held(1)", x.held(1), 0);
    }

    private static void silence() {
        promise = 10;
        PathReader x = plain();
        due("silence()", x.silence(), 0);
        due("told(8)", x.told(8), 4);
        x.hears(0);
        x.hears(0);
        due("silence()", x.silence(), 2);
        due("held(0)", x.held(0), 0);
        due("held(1)", x.held(1), 0);
        due("held(6)", x.held(6), NONE);
        due("word(1, 0)", x.word(1, 0), BAD);
        due("told(8)", x.told(8), 6);
        x.back();
        due("held(0) behind back", x.held(0), 2);
    }

    private static void rereads() {
        promise = 11;
        PathReader x = gardenPath();
        due("rereads() of no WORDS", x.rereads(), 0);
        x.hears(0);
        x.hears(1);
        x.hears(2);
        x.sets(2, 5);
        due("held(2): as it was heard", x.held(2), 0);
        due("rereads()", x.rereads(), 1);
        due("held(2)", x.held(2), 1);
        due("word(3, 4)", x.word(3, 4), 1);
        x.rules(0, 1, 0, 4);
        due("held(4): as reckoned", x.held(4), 2);
        due("rereads()", x.rereads(), 1);
        due("held(4)", x.held(4), 6);
        x.rules(0, 1, 0, -1);
        due("rereads(): STUCK", x.rereads(), NONE);
        due("held(2)", x.held(2), 0);
        due("held(3)", x.held(3), 0);
        x.rules(0, 1, 0, 0);
        due("rereads(): all begins anew", x.rereads(), 1);
        due("told(8)", x.told(8), 6);
    }

    private static void word() {
        promise = 12;
        PathReader x = gardenPath();
        x.sets(2, 5);
        x.hears(0);
        x.hears(1);
        x.hears(2);
        int[][] want = {{0, 0, 3, 0, 0, 5}, {1, 1, 1, 0, 0, 0}, {2, 0, 0, 6, 1, 2}};
        for (int i = 1; i <= 3; i++) {
            for (int what = 0; what <= 5; what++) {
                due("word(" + i + ", " + what + ")", x.word(i, what), want[i - 1][what]);
            }
        }
        due("word(0, 0)", x.word(0, 0), BAD);
        due("word(4, 0)", x.word(4, 0), BAD);
        due("word(1, 6)", x.word(1, 6), BAD);
        due("word(1, -1)", x.word(1, -1), BAD);
        due("word(MIN, 0)", x.word(Integer.MIN_VALUE, 0), BAD);
        due("told(0)", x.told(0), 5);
    }

    private static void held() {
        promise = 13;
        PathReader x = gardenPath();
        x.sets(2, 5);
        x.hears(0);
        x.hears(1);
        x.hears(2);
        int[] want = {3, 0, 1, 6, 2, 3, 2};
        for (int what = 0; what <= 6; what++) {
            due("held(" + what + ")", x.held(what), want[what]);
        }
        x.hears(0);
        int[] stuckWant = {4, 1, 1, 6, NONE, NONE, NONE};
        for (int what = 0; what <= 6; what++) {
            due("STUCK, held(" + what + ")", x.held(what), stuckWant[what]);
        }
        due("held(7)", x.held(7), BAD);
        due("held(-1)", x.held(-1), BAD);
        x.silence();
        x.hears(2);
        due("held(6) of one WORD", x.held(6), 0);
    }

    private static void best() {
        promise = 14;
        PathReader x = gardenPath();
        due("best(0, 0) of no WORDS", x.best(0, 0), NONE);
        due("best(1, 0)", x.best(1, 0), BAD);
        x.hears(0);
        x.hears(1);
        x.hears(2);
        due("best(0, 0)", x.best(0, 0), 2);
        due("best(0, 1)", x.best(0, 1), 2);
        int[][] want = {{0, 3}, {1, 1}, {0, 0}};
        for (int i = 1; i <= 3; i++) {
            due("best(" + i + ", 0)", x.best(i, 0), want[i - 1][0]);
            due("best(" + i + ", 1)", x.best(i, 1), want[i - 1][1]);
        }
        x.rules(0, 1, 0, 3);
        due("best(0, 0) as all is now", x.best(0, 0), 5);
        due("held(4)", x.held(4), 2);
        due("best(4, 0)", x.best(4, 0), BAD);
        due("best(-1, 0)", x.best(-1, 0), BAD);
        due("best(0, 2)", x.best(0, 2), BAD);
        due("best(0, -1)", x.best(0, -1), BAD);
        x.rules(0, 1, 0, -1);
        due("best(0, 0): none", x.best(0, 0), NONE);
        due("best(3, 1): none", x.best(3, 1), NONE);
        due("told(0)", x.told(0), 5);
    }

    private static void ways() {
        promise = 15;
        PathReader x = plain();
        int[] want = {0, 1, 2, 7, 30, 143, 728};
        for (int n = 0; n <= 6; n++) {
            due("ways() of " + n, x.ways(), want[n]);
            x.hears(0);
        }
        PathReader y = new PathReader();
        y.entry(0, 1, 0);
        y.roots(1, 0);
        for (int k = 0; k < 8; k++) {
            y.rules(k / 4, k / 2 % 2, k % 2, 0);
        }
        for (int n = 1; n <= 6; n++) {
            y.hears(0);
            due("ways() of " + n + ", each with two READINGS", y.ways(), (long) want[n] << n);
        }
        y.roots(0, -1);
        due("ways() with half of the ROOTS", y.ways(), 728L << 5);
        y.roots(1, -1);
        due("ways() with no ROOT", y.ways(), 0);
    }

    private static void sound() {
        promise = 16;
        PathReader x = gardenPath();
        due("sound(), none held", x.sound(), 0);
        x.hears(0);
        due("sound()", x.sound(), 1);
        x.roots(1, -1);
        due("sound(), no ROOT PRICE", x.sound(), 0);
        x.hears(1);
        due("sound()", x.sound(), 1);
        x.hears(2);
        x.rules(0, 1, 0, 9);
        due("sound(), another PRICE", x.sound(), 1);
        x.rules(1, 2, 1, -1);
        due("sound(), no RULE", x.sound(), 0);
        x.rules(1, 2, 1, 0);
        due("sound()", x.sound(), 1);
        x.hears(0);
        due("sound(), STUCK", x.sound(), 0);
    }

    private static void typeAndClear() {
        promise = 17;
        PathReader x = new PathReader();
        due("type(-1)", x.type(-1), BAD);
        due("type(128)", x.type(128), BAD);
        due("type(0)", x.type(0), 1);
        due("type(127)", x.type(127), 2);
        for (int k = 3; k <= 120; k++) {
            due("type(32)", x.type(32), k);
        }
        due("type(32), the 121st", x.type(32), FULL);
        due("type(128), the 121st", x.type(128), BAD);
        due("told(2)", x.told(2), 1);
        due("told(7)", x.told(7), 120);
        due("told(8)", x.told(8), 0);
        promise = 18;
        due("clear()", x.clear(), 120);
        due("clear()", x.clear(), 0);
        due("told(7)", x.told(7), 0);
        due("told(8)", x.told(8), 0);
        due("type(101)", x.type(101), 1);
    }

    private static void doesOrders() {
        promise = 19;
        PathReader x = new PathReader();
        due("does", tell(x, "e1;f0 2 1;e 00 ; r0 1 0 0;r 1 2 1-;r 1  2 1 0;o1 5; w0 1 2;"), 8);
        due("told(8): one STATE", x.told(8), 1);
        due("told(3)", x.told(3), 3);
        due("of(1, 2)", x.of(1, 2), 1);
        due("held(3)", x.held(3), 6);
        due("held(4)", x.held(4), 2);
        due("told(7): THE TEXT stays", x.told(7), "e1;f0 2 1;e 00 ; r0 1 0 0;r 1 2 1-;r 1  2 1 0;o1 5; w0 1 2;".length());
        due("back()", x.back(), 0);
        due("told(3)", x.told(3), 0);
        due("held(0)", x.held(0), 0);
        due("does(), once more", x.does(), 8);
        due("held(4)", x.held(4), 2);
        due("o 1 -", tell(x, "o 1 - ;"), 1);
        due("roots(1, 0)", x.roots(1, 0), NONE);
        due("o1-", tell(x, " o1-; "), 1);
        due("roots(1, 0)", x.roots(1, 0), NONE);
        PathReader y = plain();
        due("w of six", tell(y, "w 0 0 0 0 0 0;"), 1);
        due("held(0)", y.held(0), 6);
    }

    private static void doesFaults() {
        promise = 19;
        PathReader x = plain();
        String[] texts = {"", "   ", "e", "e1", "e 1 ", "e 1;f", "x", "E1;", "e1;;", "e;", "e 123;", "e 1 2;", "e1-;",
            "e-;", "f 0 1;", "f 0 -;", "f 0 1 2 3;", "r 0 1 0 -1;", "r 0 1 0 --;", "r 0 1 - 0;", "r 0 1 0;", "o 1;",
            "o -;", "w;", "w -;", "w 0 0 0 0 0 0 0;", "w 0 0 0 0 0 000;", "w 0,", "e1;\t", "e/;", "e:;", "r010 1;",
            "e 1;w 0 0 0"};
        int[] faults = {0, 3, 1, 2, 4, 5, 0, 0, 3, 1, 4, 4, 2, 1, 5, 4, 8, 9, 9, 6, 7, 3, 2, 1, 2, 14, 14, 3, 3, 1, 1,
            3, 11};
        for (int k = 0; k < texts.length; k++) {
            due("FAULT of '" + texts[k] + "'", tell(x, texts[k]), -10 - faults[k]);
        }
        due("told(8)", x.told(8), 3);
        due("told(0)", x.told(0), 0);
        due("told(3)", x.told(3), 1);
        StringBuilder blanks = new StringBuilder();
        for (int k = 0; k < 120; k++) {
            blanks.append(' ');
        }
        due("FAULT of blanks", tell(new PathReader(), blanks.toString()), -130);
    }

    private static void doesEnds() {
        promise = 19;
        PathReader x = plain();
        due("e 6", tell(x, "e 6;"), -1000);
        due("e 99", tell(x, "e1; e 99;"), -1001);
        due("f 1 1 0", tell(x, "e1;e1;f 1 1 0;"), -1002);
        due("f 1 2 10", tell(x, "f 1 2 10;"), -1000);
        due("r 0 0 2 0", tell(x, "r 0 0 0 5; r 0 0 2 0;"), -1001);
        due("rule(0, 0, 0)", x.rule(0, 0, 0), 1);
        due("o 0 10", tell(x, "o 0 -;o 0 10;"), -1001);
        due("w 0 0 1", tell(x, "w 0 0 1;"), -1000);
        due("held(0): nothing is done", x.held(0), 0);
        due("w of the new one", tell(x, "e 0; w 0 1; w 2;"), -1002);
        due("told(3)", x.told(3), 1);
        due("w of seven", tell(x, "w 0 0 0 0; w 0 0 0;"), -1001);
        due("held(0)", x.held(0), 0);
        due("told(0): by THE TEXT nothing counts", x.told(0), 0);
        due("told(2)", x.told(2), 0);
        due("told(8)", x.told(8), 3);
        due("e of 13", tell(x, "e0;e0;e0;e0;e0;e0;e0;e0;e0;e0;e0;e0;"), -1011);
        due("e of 12", tell(x, "e0;e0;e0;e0;e0;e0;e0;e0;e0;e0;e0;"), 11);
        due("told(3)", x.told(3), 12);
        due("a FAULT ahead of all", tell(x, "e 99; x"), -16);
    }

    private static void back() {
        promise = 20;
        PathReader x = new PathReader();
        due("back()", x.back(), NO);
        due("told(1)", x.told(1), 1);
        x.sets(2, 10);
        for (int v = 1; v <= 7; v++) {
            x.sets(2, v);
        }
        x.sets(2, 7);
        x.type(101);
        x.sets(2, 100);
        due("told(8)", x.told(8), 6);
        int[] bounds = {7, 6, 5, 4, 3, 2};
        for (int k = 0; k < 6; k++) {
            due("back()", x.back(), 5 - k);
            due("told(6)", x.told(6), bounds[k]);
        }
        due("back(): older ones lost", x.back(), NO);
        due("told(1)", x.told(1), 2);
        due("told(0): stays", x.told(0), 1);
        due("told(7): THE TEXT stays", x.told(7), 1);
        PathReader y = gardenPath();
        y.hears(0);
        y.hears(1);
        y.hears(2);
        y.silence();
        due("back()", y.back(), 5);
        due("held(3)", y.held(3), 6);
        due("held(4)", y.held(4), 2);
        y.unhears();
        y.hears(0);
        y.back();
        due("back()", y.back(), 4);
        due("word(3, 0)", y.word(3, 0), 2);
        due("word(3, 3)", y.word(3, 3), 6);
        due("word(2, 1)", y.word(2, 1), 1);
        y.sets(2, 5);
        y.rereads();
        y.rules(0, 1, 0, 3);
        y.rereads();
        due("held(4)", y.held(4), 5);
        y.sets(2, 6);
        y.rereads();
        due("held(2)", y.held(2), 0);
        y.back();
        due("held(2): STUMBLES come back", y.held(2), 1);
        y.back();
        y.back();
        due("held(4): COSTS come back", y.held(4), 2);
        y.rules(5, 5, 1, 5);
        y.roots(5, 5);
        y.entry(5, 4, 5);
        y.back();
        y.back();
        y.back();
        due("rule(5, 5, 1)", y.rule(5, 5, 1), NONE);
        due("told(3)", y.told(3), 3);
        due("roots(5, 1)", y.roots(5, 1), NONE);
    }

    private static void told() {
        promise = 21;
        PathReader x = plain();
        x.sets(0, 2);
        x.sets(1, 3);
        x.sets(2, 4);
        due("told(9)", x.told(9), BAD);
        due("told(-1)", x.told(-1), BAD);
        x.unhears();
        x.type(50);
        for (int k = 0; k < 9; k++) {
            x.hears(0);
        }
        int[] want = {2, 1, 3, 1, 2, 3, 4, 1, 6};
        for (int what = 0; what <= 8; what++) {
            due("told(" + what + ")", x.told(what), want[what]);
        }
    }

    private static void digest() {
        promise = 22;
        PathReader x = gardenPath();
        x.hears(0);
        x.hears(1);
        x.hears(2);
        x.hears(7);
        int[] rootPrices = {0, 5, NONE, NONE, NONE, NONE};
        long h = 2605;
        for (int what = 0; what <= 8; what++) {
            h = 31 * h + x.told(what);
        }
        for (int what = 0; what <= 6; what++) {
            h = 31 * h + x.held(what);
        }
        for (int k = 0; k < 18; k++) {
            h = 31 * h + x.word(1 + k / 6, k % 6);
        }
        for (int k = 0; k < 9; k++) {
            h = 31 * h + x.of(k / 3, k % 3);
        }
        for (int price : rootPrices) {
            h = 31 * h + price;
        }
        for (int k = 0; k < 72; k++) {
            h = 31 * h + x.rule(k / 12, k / 2 % 6, k % 2);
        }
        h = 31 * h + x.sound();
        due("digest()", x.digest(), h);
        due("digest() again: nothing is changed", x.digest(), h);
    }
}
