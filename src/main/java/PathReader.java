/**
 * A reader who hears a sentence word by word and holds one analysis of it.
 * The document's words in capitals (SORT, RULE, ANALYSIS, REPAIR, ..) are used here as it uses them.
 */
public final class PathReader {
    public static final int NONE = -1, BAD = -2, NO = -3, FULL = -4;

    private static final int FINE = 0;
    private static final int SORTS = 6, SIDES = 2, READINGS = 2, MOST_PRICE = 9;
    private static final int MOST_ENTRIES = 12, MOST_WORDS = 6, MOST_BYTES = 120, MOST_STATES = 6;
    private static final int FARNESS = 0, WEIGHT = 1, BOUND = 2;
    private static final int[] MOST_OF_SETTING = {3, 9, 99};
    private static final int BAD_COUNT = 0, NO_COUNT = 1, FULL_COUNT = 2;
    private static final int FAULT_BASE = -10, ENDED_BASE = -1000;
    private static final long DIGEST_START = 2605;

    private final State now = new State();
    private final State ahead = new State();
    private final Shelf shelf = new Shelf();
    private final Chart chart = new Chart();
    private final Script script = new Script();
    private final int[] refusals = new int[3];

    public PathReader() {
    }

    // ---- grammar and lexicon

    public int rules(int h, int d, int side, int v) {
        int why = now.grammar.whyNoPrice(h, d, side, v);
        if (why != FINE) {
            return refuse(why);
        }
        shelf.push(now);
        return now.grammar.putPrice(h, d, side, v);
    }

    public int roots(int s, int v) {
        int why = now.grammar.whyNoRootPrice(s, v);
        if (why != FINE) {
            return refuse(why);
        }
        shelf.push(now);
        return now.grammar.putRootPrice(s, v);
    }

    public int entry(int s, int z, int x) {
        int why = now.grammar.whyNoEntry(s, z, x);
        if (why != FINE) {
            return refuse(why);
        }
        shelf.push(now);
        return now.grammar.addEntry(s, z, x);
    }

    public int sets(int what, int v) {
        if (!isBelow(what, MOST_OF_SETTING.length) || v < 0 || v > MOST_OF_SETTING[what]) {
            return refuse(BAD);
        }
        shelf.push(now);
        return now.grammar.putSetting(what, v);
    }

    public int rule(int h, int d, int side) {
        if (!isRulePlace(h, d, side)) {
            return refuse(BAD);
        }
        return now.grammar.price(h, d, side);
    }

    public int of(int e, int what) {
        if (!now.grammar.hasEntry(e) || !isBelow(what, READINGS + 1)) {
            return refuse(BAD);
        }
        return what < READINGS ? now.grammar.sortOf(e, what) : now.grammar.extraOf(e, 1);
    }

    // ---- the sentence

    public int hears(int e) {
        int why = now.whyNoWord(e);
        if (why != FINE) {
            return refuse(why);
        }
        shelf.push(now);
        now.hear(e, chart);
        Sentence sentence = now.sentence;
        return sentence.isStuck() ? NONE : sentence.repairs[sentence.count];
    }

    public int unhears() {
        if (now.sentence.count == 0) {
            return refuse(NO);
        }
        shelf.push(now);
        now.sentence.count--;
        return now.sentence.count;
    }

    public int silence() {
        shelf.push(now);
        int had = now.sentence.count;
        now.sentence.count = 0;
        return had;
    }

    public int rereads() {
        shelf.push(now);
        now.hearAllAnew(chart);
        return now.sentence.isStuck() ? NONE : now.sentence.sumOfStumbles();
    }

    public int word(int i, int what) {
        Sentence sentence = now.sentence;
        if (i < 1 || i > sentence.count) {
            return refuse(BAD);
        }
        int row = sentence.heldRow();
        switch (what) {
            case 0: return sentence.entries[i];
            case 1: return row == NONE ? NONE : Row.readingOf(row, i);
            case 2: return row == NONE ? NONE : Row.headOf(row, i);
            case 3: return sentence.repairs[i];
            case 4: return sentence.stumbles[i];
            case 5: return sentence.costs[i];
            default: return refuse(BAD);
        }
    }

    public int held(int what) {
        Sentence sentence = now.sentence;
        int row = sentence.heldRow();
        switch (what) {
            case 0: return sentence.count;
            case 1: return sentence.isStuck() ? 1 : 0;
            case 2: return sentence.sumOfStumbles();
            case 3: return sentence.sumOfRepairs();
            case 4: return sentence.costs[sentence.count];
            case 5: return row == NONE ? NONE : Row.rootOf(row, sentence.count);
            case 6: return row == NONE ? NONE : Row.deepestLevel(row, sentence.count);
            default: return refuse(BAD);
        }
    }

    public int best(int i, int what) {
        if (i < 0 || i > now.sentence.count || (what != 0 && what != 1)) {
            return refuse(BAD);
        }
        chart.reckon(now, 0);
        if (!chart.hasAnalysis()) {
            return NONE;
        }
        if (i == 0) {
            return chart.leastCost();
        }
        int row = chart.leastRow();
        return what == 0 ? Row.readingOf(row, i) : Row.headOf(row, i);
    }

    public int ways() {
        chart.reckon(now, 0);
        return chart.countOfAnalyses();
    }

    public int sound() {
        return now.isHeldStillAllowed() ? 1 : 0;
    }

    // ---- texts

    public int type(int c) {
        if (c < 0 || c > 127) {
            return refuse(BAD);
        }
        if (script.length >= MOST_BYTES) {
            return refuse(FULL);
        }
        script.append(c);
        return script.length;
    }

    public int clear() {
        int had = script.length;
        script.length = 0;
        return had;
    }

    public int does() {
        int fault = script.readWhole();
        if (fault != NONE) {
            return FAULT_BASE - fault;
        }
        ahead.copyFrom(now);
        for (int order = 0; order < script.orders; order++) {
            boolean isDone = script.kind(order) == 'w' ? doWords(order) : doOrder(order);
            if (!isDone) {
                now.copyFrom(ahead);
                return ENDED_BASE - order;
            }
        }
        shelf.push(ahead);
        return script.orders;
    }

    public int back() {
        if (shelf.count == 0) {
            return refuse(NO);
        }
        shelf.pop(now);
        return shelf.count;
    }

    public int told(int what) {
        switch (what) {
            case 0: return refusals[BAD_COUNT];
            case 1: return refusals[NO_COUNT];
            case 2: return refusals[FULL_COUNT];
            case 3: return now.grammar.entryCount;
            case 4: return now.grammar.settings[FARNESS];
            case 5: return now.grammar.settings[WEIGHT];
            case 6: return now.grammar.settings[BOUND];
            case 7: return script.length;
            case 8: return shelf.count;
            default: return refuse(BAD);
        }
    }

    public long digest() {
        long h = DIGEST_START;
        for (int what = 0; what <= 8; what++) {
            h = 31 * h + told(what);
        }
        h = digestOfSentence(h);
        h = digestOfGrammar(h);
        return 31 * h + sound();
    }

    private long digestOfSentence(long start) {
        long h = start;
        for (int what = 0; what <= 6; what++) {
            h = 31 * h + held(what);
        }
        for (int i = 1; i <= now.sentence.count; i++) {
            for (int what = 0; what <= 5; what++) {
                h = 31 * h + word(i, what);
            }
        }
        return h;
    }

    private long digestOfGrammar(long start) {
        long h = start;
        for (int e = 0; e < now.grammar.entryCount; e++) {
            for (int what = 0; what <= 2; what++) {
                h = 31 * h + of(e, what);
            }
        }
        for (int s = 0; s < SORTS; s++) {
            h = 31 * h + now.grammar.rootPrices[s];
        }
        for (int head = 0; head < SORTS; head++) {
            for (int d = 0; d < SORTS; d++) {
                for (int side = 0; side < SIDES; side++) {
                    h = 31 * h + rule(head, d, side);
                }
            }
        }
        return h;
    }

    private int refuse(int why) {
        if (why == BAD) {
            refusals[BAD_COUNT]++;
        } else if (why == NO) {
            refusals[NO_COUNT]++;
        } else {
            refusals[FULL_COUNT]++;
        }
        return why;
    }

    /** False: its call would refuse it, and it is not done. */
    private boolean doOrder(int order) {
        Grammar grammar = now.grammar;
        int a = script.number(order, 0), b = script.number(order, 1);
        int c = script.number(order, 2), d = script.number(order, 3);
        switch (script.kind(order)) {
            case 'e': return doEntry(a, NONE, 0);
            case 'f': return doEntry(a, b, c);
            case 'r':
                if (grammar.whyNoPrice(a, b, c, d) != FINE) {
                    return false;
                }
                grammar.putPrice(a, b, c, d);
                return true;
            case 'o':
                if (grammar.whyNoRootPrice(a, b) != FINE) {
                    return false;
                }
                grammar.putRootPrice(a, b);
                return true;
            default: return false;
        }
    }

    private boolean doEntry(int s, int z, int x) {
        if (now.grammar.whyNoEntry(s, z, x) != FINE) {
            return false;
        }
        now.grammar.addEntry(s, z, x);
        return true;
    }

    /** False: hears would refuse one of them; those ahead of it are heard, and the caller takes them back. */
    private boolean doWords(int order) {
        int count = script.numberCount(order);
        for (int k = 0; k < count; k++) {
            int e = script.number(order, k);
            if (now.whyNoWord(e) != FINE) {
                return false;
            }
            now.hear(e, chart);
        }
        return true;
    }

    private static boolean isBelow(int number, int bound) {
        return number >= 0 && number < bound;
    }

    private static boolean isPriceOrNone(int v) {
        return v >= NONE && v <= MOST_PRICE;
    }

    private static boolean isRulePlace(int h, int d, int side) {
        return isBelow(h, SORTS) && isBelow(d, SORTS) && isBelow(side, SIDES);
    }

    /**
     * The row of an ANALYSIS in one number: four bits a WORD (READING, three of HEAD), WORD 1 highest,
     * so that of two rows of as many WORDS the lesser number is the one that is first.
     */
    private static final class Row {
        private static final int WORD_BITS = 4, HEAD_BITS = 3, HEAD_MASK = 7;
        static final int BITS = WORD_BITS * MOST_WORDS;

        static int part(int i, int reading, int head) {
            return ((reading << HEAD_BITS) | head) << (WORD_BITS * (MOST_WORDS - i));
        }

        static int readingOf(int row, int i) {
            return (row >> (WORD_BITS * (MOST_WORDS - i) + HEAD_BITS)) & 1;
        }

        static int headOf(int row, int i) {
            return (row >> (WORD_BITS * (MOST_WORDS - i))) & HEAD_MASK;
        }

        static int rootOf(int row, int count) {
            for (int i = 1; i <= count; i++) {
                if (headOf(row, i) == 0) {
                    return i;
                }
            }
            return NONE;
        }

        static int deepestLevel(int row, int count) {
            int deepest = 0;
            for (int i = 1; i <= count; i++) {
                deepest = Math.max(deepest, levelOf(row, i));
            }
            return deepest;
        }

        private static int levelOf(int row, int i) {
            int level = 0;
            int head = headOf(row, i);
            while (head != 0 && level < MOST_WORDS) {
                level++;
                head = headOf(row, head);
            }
            return level;
        }
    }

    /** RULES, ROOT PRICES, ENTRIES, and FARNESS, WEIGHT, BOUND. */
    private static final class Grammar {
        final int[] prices = new int[SORTS * SORTS * SIDES];
        final int[] rootPrices = new int[SORTS];
        final int[] sorts = new int[MOST_ENTRIES * READINGS];
        final int[] extras = new int[MOST_ENTRIES];
        final int[] settings = {1, 2, 6};
        int entryCount = 0;

        Grammar() {
            for (int k = 0; k < prices.length; k++) {
                prices[k] = NONE;
            }
            for (int s = 1; s < SORTS; s++) {
                rootPrices[s] = NONE;
            }
        }

        void copyFrom(Grammar other) {
            System.arraycopy(other.prices, 0, prices, 0, prices.length);
            System.arraycopy(other.rootPrices, 0, rootPrices, 0, rootPrices.length);
            System.arraycopy(other.sorts, 0, sorts, 0, sorts.length);
            System.arraycopy(other.extras, 0, extras, 0, extras.length);
            System.arraycopy(other.settings, 0, settings, 0, settings.length);
            entryCount = other.entryCount;
        }

        int whyNoPrice(int h, int d, int side, int v) {
            return isRulePlace(h, d, side) && isPriceOrNone(v) ? FINE : BAD;
        }

        int whyNoRootPrice(int s, int v) {
            return isBelow(s, SORTS) && isPriceOrNone(v) ? FINE : BAD;
        }

        int whyNoEntry(int s, int z, int x) {
            boolean sortsFit = isBelow(s, SORTS) && (z == NONE || isBelow(z, SORTS)) && z != s;
            boolean extraFits = z == NONE ? x == 0 : x >= 0 && x <= MOST_PRICE;
            if (!sortsFit || !extraFits) {
                return BAD;
            }
            return entryCount >= MOST_ENTRIES ? FULL : FINE;
        }

        boolean hasEntry(int e) {
            return isBelow(e, entryCount);
        }

        int price(int h, int d, int side) {
            return prices[(h * SORTS + d) * SIDES + side];
        }

        int putPrice(int h, int d, int side, int v) {
            int place = (h * SORTS + d) * SIDES + side;
            int was = prices[place];
            prices[place] = v;
            return was;
        }

        int putRootPrice(int s, int v) {
            int was = rootPrices[s];
            rootPrices[s] = v;
            return was;
        }

        int putSetting(int what, int v) {
            int was = settings[what];
            settings[what] = v;
            return was;
        }

        int addEntry(int s, int z, int x) {
            int e = entryCount;
            sorts[e * READINGS] = s;
            sorts[e * READINGS + 1] = z;
            extras[e] = x;
            entryCount++;
            return e;
        }

        int sortOf(int e, int reading) {
            return sorts[e * READINGS + reading];
        }

        int extraOf(int e, int reading) {
            return reading == 1 ? extras[e] : 0;
        }
    }

    /** The WORDS, and behind each of them (place 0: ahead of the first) what was held and reckoned. */
    private static final class Sentence {
        final int[] entries = new int[MOST_WORDS + 1];
        final int[] rows = new int[MOST_WORDS + 1];
        final int[] costs = new int[MOST_WORDS + 1];
        final int[] repairs = new int[MOST_WORDS + 1];
        final int[] stumbles = new int[MOST_WORDS + 1];
        int count = 0;

        Sentence() {
            rows[0] = NONE;
            costs[0] = NONE;
        }

        void copyFrom(Sentence other) {
            System.arraycopy(other.entries, 0, entries, 0, entries.length);
            System.arraycopy(other.rows, 0, rows, 0, rows.length);
            System.arraycopy(other.costs, 0, costs, 0, costs.length);
            System.arraycopy(other.repairs, 0, repairs, 0, repairs.length);
            System.arraycopy(other.stumbles, 0, stumbles, 0, stumbles.length);
            count = other.count;
        }

        int heldRow() {
            return rows[count];
        }

        boolean isStuck() {
            return count > 0 && heldRow() == NONE;
        }

        void putReckoned(int row, int cost, int repair, int stumble) {
            rows[count] = row;
            costs[count] = cost;
            repairs[count] = repair;
            stumbles[count] = stumble;
        }

        int sumOfRepairs() {
            int sum = 0;
            for (int i = 1; i <= count; i++) {
                sum += repairs[i];
            }
            return sum;
        }

        int sumOfStumbles() {
            int sum = 0;
            for (int i = 1; i <= count; i++) {
                sum += stumbles[i];
            }
            return sum;
        }
    }

    /** All that one can go back to. */
    private static final class State {
        final Grammar grammar = new Grammar();
        final Sentence sentence = new Sentence();

        void copyFrom(State other) {
            grammar.copyFrom(other.grammar);
            sentence.copyFrom(other.sentence);
        }

        int whyNoWord(int e) {
            if (!grammar.hasEntry(e)) {
                return BAD;
            }
            return sentence.count >= MOST_WORDS ? FULL : FINE;
        }

        void hear(int e, Chart chart) {
            boolean wasStuck = sentence.isStuck();
            sentence.count++;
            sentence.entries[sentence.count] = e;
            if (!wasStuck) {
                chart.reckon(this, grammar.settings[WEIGHT]);
            }
            if (wasStuck || !chart.hasAnalysis()) {
                sentence.putReckoned(NONE, NONE, 0, 0);
                return;
            }
            int repair = chart.leastRepair();
            int stumble = repair > grammar.settings[BOUND] ? 1 : 0;
            sentence.putReckoned(chart.leastRow(), chart.leastCost(), repair, stumble);
        }

        void hearAllAnew(Chart chart) {
            int all = sentence.count;
            sentence.count = 0;
            for (int i = 1; i <= all; i++) {
                hear(sentence.entries[i], chart);
            }
        }

        boolean isHeldStillAllowed() {
            int row = sentence.heldRow();
            if (row == NONE) {
                return false;
            }
            for (int i = 1; i <= sentence.count; i++) {
                if (!isHangingAllowed(row, i)) {
                    return false;
                }
            }
            return true;
        }

        private boolean isHangingAllowed(int row, int i) {
            int head = Row.headOf(row, i);
            int sort = sortIn(row, i);
            if (sort == NONE) {
                return false;
            }
            if (head == 0) {
                return grammar.rootPrices[sort] != NONE;
            }
            int headSort = sortIn(row, head);
            return headSort != NONE && grammar.price(headSort, sort, i < head ? 0 : 1) != NONE;
        }

        private int sortIn(int row, int i) {
            return grammar.sortOf(sentence.entries[i], Row.readingOf(row, i));
        }
    }

    /** The STATES to go back to, the oldest making room; its rows are made once and used round and round. */
    private static final class Shelf {
        private final State[] states = new State[MOST_STATES];
        private int next = 0;
        int count = 0;

        Shelf() {
            for (int k = 0; k < MOST_STATES; k++) {
                states[k] = new State();
            }
        }

        void push(State state) {
            states[next].copyFrom(state);
            next = (next + 1) % MOST_STATES;
            count = Math.min(count + 1, MOST_STATES);
        }

        void pop(State into) {
            if (count > 0) {
                next = (next + MOST_STATES - 1) % MOST_STATES;
                count--;
                into.copyFrom(states[next]);
            }
        }
    }

    /**
     * Reckons all ANALYSES at once. A WORD's HEAD and READING have a share of their own in COST, REPAIR and row;
     * a share is one long (COST and REPAIR together highest, then REPAIR, then the row), shares of an ANALYSIS
     * are added, no part of the sum overflowing, and the least sum is the ANALYSIS that is due.
     * What hangs on a WORD on one side of it are trees side by side, each over a span of WORDS without a gap:
     * so spans are reckoned from the short to the long, each ANALYSIS being met in just one way.
     */
    private static final class Chart {
        private static final int REACH = MOST_WORDS + 2;
        private static final int REPAIR_BITS = 12;
        private static final int TOTAL_SHIFT = Row.BITS + REPAIR_BITS;
        private static final long IMPOSSIBLE = 1L << 58;

        private final long[] links = new long[REACH * READINGS * REACH * READINGS];
        private final long[] leastOfTree = new long[REACH * REACH * REACH * READINGS];
        private final long[] leastOfTrees = new long[REACH * REACH * REACH * READINGS];
        private final int[] countOfTree = new int[REACH * REACH * REACH * READINGS];
        private final int[] countOfTrees = new int[REACH * REACH * REACH * READINGS];
        private long least = IMPOSSIBLE;
        private int analyses = 0;

        Chart() {
            for (int from = 1; from < REACH; from++) {
                for (int head = 0; head < REACH; head++) {
                    for (int reading = 0; reading < READINGS; reading++) {
                        countOfTrees[spanPlace(from, from - 1, head, reading)] = 1;
                    }
                }
            }
        }

        boolean hasAnalysis() {
            return analyses > 0;
        }

        int countOfAnalyses() {
            return analyses;
        }

        int leastRow() {
            return (int) (least & ((1L << Row.BITS) - 1));
        }

        int leastRepair() {
            return (int) (least >> Row.BITS) & ((1 << REPAIR_BITS) - 1);
        }

        int leastCost() {
            return (int) (least >> TOTAL_SHIFT) - leastRepair();
        }

        /**
         * Repairs are those that the last WORD asks for, against what was held ahead of it.
         * With weight 0 there are none, and nothing need have been held.
         */
        void reckon(State state, int weight) {
            int count = state.sentence.count;
            for (int i = 1; i <= count; i++) {
                reckonLinks(state, weight, i);
            }
            for (int size = 1; size < count; size++) {
                for (int from = 1; from + size - 1 <= count; from++) {
                    reckonSpan(from, from + size - 1, count);
                }
            }
            reckonRoots(state, weight);
        }

        private void reckonLinks(State state, int weight, int i) {
            for (int head = 1; head <= state.sentence.count; head++) {
                if (head == i) {
                    continue;
                }
                for (int reading = 0; reading < READINGS; reading++) {
                    int repair = repairOf(state.sentence, weight, i, reading, head);
                    int part = Row.part(i, reading, head);
                    for (int headReading = 0; headReading < READINGS; headReading++) {
                        int cost = costOfLink(state, i, reading, head, headReading);
                        links[linkPlace(i, reading, head, headReading)] = share(cost, repair, part);
                    }
                }
            }
        }

        private static int costOfLink(State state, int i, int reading, int head, int headReading) {
            Grammar grammar = state.grammar;
            int e = state.sentence.entries[i];
            int sort = grammar.sortOf(e, reading);
            int headSort = grammar.sortOf(state.sentence.entries[head], headReading);
            if (sort == NONE || headSort == NONE) {
                return NONE;
            }
            int price = grammar.price(headSort, sort, i < head ? 0 : 1);
            if (price == NONE) {
                return NONE;
            }
            int between = Math.abs(i - head) - 1;
            return price + grammar.extraOf(e, reading) + grammar.settings[FARNESS] * between;
        }

        private static int costOfRoot(State state, int i, int reading) {
            int e = state.sentence.entries[i];
            int sort = state.grammar.sortOf(e, reading);
            if (sort == NONE || state.grammar.rootPrices[sort] == NONE) {
                return NONE;
            }
            return state.grammar.rootPrices[sort] + state.grammar.extraOf(e, reading);
        }

        private static int repairOf(Sentence sentence, int weight, int i, int reading, int head) {
            int last = sentence.count;
            if (weight == 0 || i >= last) {
                return 0;
            }
            int row = sentence.rows[last - 1];
            int hadHead = Row.headOf(row, i);
            boolean isChanged = reading != Row.readingOf(row, i) || (hadHead != 0 && hadHead != head);
            return isChanged ? weight * (last - i) : 0;
        }

        private static long share(int cost, int repair, int part) {
            if (cost == NONE) {
                return IMPOSSIBLE;
            }
            return ((long) (cost + repair) << TOTAL_SHIFT) + ((long) repair << Row.BITS) + part;
        }

        private void reckonSpan(int from, int to, int count) {
            for (int head = 1; head <= count; head++) {
                if (head >= from && head <= to) {
                    continue;
                }
                for (int headReading = 0; headReading < READINGS; headReading++) {
                    reckonTree(from, to, head, headReading);
                    reckonTrees(from, to, head, headReading);
                }
            }
        }

        /** One tree over the whole span, whose top hangs on the head outside. */
        private void reckonTree(int from, int to, int head, int headReading) {
            long smallest = IMPOSSIBLE;
            int count = 0;
            for (int top = from; top <= to; top++) {
                for (int reading = 0; reading < READINGS; reading++) {
                    long link = links[linkPlace(top, reading, head, headReading)];
                    if (link < IMPOSSIBLE) {
                        int left = spanPlace(from, top - 1, top, reading);
                        int right = spanPlace(top + 1, to, top, reading);
                        smallest = Math.min(smallest, link + leastOfTrees[left] + leastOfTrees[right]);
                        count += countOfTrees[left] * countOfTrees[right];
                    }
                }
            }
            leastOfTree[spanPlace(from, to, head, headReading)] = smallest;
            countOfTree[spanPlace(from, to, head, headReading)] = count;
        }

        /** One tree or more side by side over the span, whose tops all hang on the head outside. */
        private void reckonTrees(int from, int to, int head, int headReading) {
            long smallest = IMPOSSIBLE;
            int count = 0;
            for (int end = from; end <= to; end++) {
                int first = spanPlace(from, end, head, headReading);
                int others = spanPlace(end + 1, to, head, headReading);
                smallest = Math.min(smallest, leastOfTree[first] + leastOfTrees[others]);
                count += countOfTree[first] * countOfTrees[others];
            }
            leastOfTrees[spanPlace(from, to, head, headReading)] = smallest;
            countOfTrees[spanPlace(from, to, head, headReading)] = count;
        }

        private void reckonRoots(State state, int weight) {
            int last = state.sentence.count;
            least = IMPOSSIBLE;
            analyses = 0;
            for (int root = 1; root <= last; root++) {
                for (int reading = 0; reading < READINGS; reading++) {
                    int cost = costOfRoot(state, root, reading);
                    int repair = repairOf(state.sentence, weight, root, reading, 0);
                    int left = spanPlace(1, root - 1, root, reading);
                    int right = spanPlace(root + 1, last, root, reading);
                    if (cost != NONE) {
                        long rootShare = share(cost, repair, Row.part(root, reading, 0));
                        least = Math.min(least, rootShare + leastOfTrees[left] + leastOfTrees[right]);
                        analyses += countOfTrees[left] * countOfTrees[right];
                    }
                }
            }
        }

        private static int linkPlace(int i, int reading, int head, int headReading) {
            return ((i * READINGS + reading) * REACH + head) * READINGS + headReading;
        }

        private static int spanPlace(int from, int to, int head, int headReading) {
            return ((from * REACH + to) * REACH + head) * READINGS + headReading;
        }
    }

    /** THE TEXT, and the ORDERS that were read from it. */
    private static final class Script {
        private final int[] bytes = new int[MOST_BYTES];
        private final int[] kinds = new int[MOST_BYTES];
        private final int[] firsts = new int[MOST_BYTES];
        private final int[] counts = new int[MOST_BYTES];
        private final int[] numbers = new int[MOST_BYTES];
        private int numbersRead = 0;
        private int at = 0;
        int length = 0;
        int orders = 0;

        void append(int c) {
            if (length < MOST_BYTES) {
                bytes[length] = c;
                length++;
            }
        }

        int kind(int order) {
            return kinds[order];
        }

        int numberCount(int order) {
            return counts[order];
        }

        /** NONE, too, where the ORDER has no such number. */
        int number(int order, int k) {
            return k < counts[order] ? numbers[firsts[order] + k] : NONE;
        }

        /** The FAULT; NONE: there is none. */
        int readWhole() {
            at = 0;
            orders = 0;
            numbersRead = 0;
            skipBlanks();
            while (at < length && orders < MOST_BYTES) {
                if (!readOrder()) {
                    return at;
                }
                orders++;
                skipBlanks();
            }
            return orders == 0 ? at : NONE;
        }

        /** False: there is a FAULT, where the reading now is. */
        private boolean readOrder() {
            int kind = here();
            int most = mostNumbers(kind);
            if (most == 0) {
                return false;
            }
            at++;
            kinds[orders] = kind;
            firsts[orders] = numbersRead;
            for (int k = 0; k < most; k++) {
                skipBlanks();
                boolean mayEnd = kind == 'w' && k > 0;
                if (mayEnd && !isFigureHere()) {
                    break;
                }
                boolean mayBeNone = (kind == 'r' || kind == 'o') && k == most - 1;
                if (!readNumber(mayBeNone)) {
                    return false;
                }
            }
            counts[orders] = numbersRead - firsts[orders];
            skipBlanks();
            if (here() != ';') {
                return false;
            }
            at++;
            return true;
        }

        private boolean readNumber(boolean mayBeNone) {
            if (mayBeNone && here() == '-') {
                at++;
                keepNumber(NONE);
                return true;
            }
            if (!isFigureHere()) {
                return false;
            }
            int number = here() - '0';
            at++;
            if (isFigureHere()) {
                number = 10 * number + here() - '0';
                at++;
            }
            keepNumber(number);
            return !isFigureHere();
        }

        private void keepNumber(int number) {
            if (numbersRead < MOST_BYTES) {
                numbers[numbersRead] = number;
                numbersRead++;
            }
        }

        private void skipBlanks() {
            while (at < length && bytes[at] == ' ') {
                at++;
            }
        }

        private int here() {
            return at < length ? bytes[at] : NONE;
        }

        private boolean isFigureHere() {
            int c = here();
            return c >= '0' && c <= '9';
        }

        private static int mostNumbers(int kind) {
            switch (kind) {
                case 'e': return 1;
                case 'f': return 3;
                case 'r': return 4;
                case 'o': return 2;
                case 'w': return MOST_WORDS;
                default: return 0;
            }
        }
    }
}
