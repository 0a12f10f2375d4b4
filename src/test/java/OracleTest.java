import java.util.ArrayDeque;
import java.util.ArrayList;
import java.util.List;
import java.util.Random;
import java.util.regex.Matcher;
import java.util.regex.Pattern;

/**
 * Random runs, compared call by call with a slow model that is written straight from the document:
 * every ANALYSIS is listed and weighed, THE TEXT is read by regular expressions.
 */
public final class OracleTest {
    private static final int RUNS = 400, CALLS = 500;
    private static final String[] NAMES = {"rules", "roots", "entry", "sets", "rule", "of", "hears", "unhears",
        "silence", "rereads", "word", "held", "best", "ways", "sound", "type", "clear", "does", "back", "told",
        "digest"};
    private static final int[] ARGUMENTS = {4, 2, 3, 2, 3, 2, 1, 0, 0, 0, 2, 1, 2, 0, 0, 1, 0, 0, 0, 1, 0};
    private static final int TYPE = 15, CLEAR = 16, DOES = 17, HEARS = 6;

    public static void main(String[] args) {
        int wrong = 0;
        int[] seen = new int[8];
        for (int run = 0; run < RUNS && wrong < 5; run++) {
            wrong += new Run(run, seen).play();
        }
        String[] what = {"repairs", "stumbles", "stuck", "texts done", "faults", "texts ended", "ways", "backs"};
        for (int k = 0; k < seen.length; k++) {
            System.out.println("seen " + what[k] + ": " + seen[k]);
            if (seen[k] < 50) {
                wrong++;
                System.out.println("too few to tell anything");
            }
        }
        System.out.println(wrong == 0 ? "all answers are as the model's" : wrong + " answers are not as the model's");
        if (wrong != 0) {
            System.exit(1);
        }
    }

    private static final class Run {
        final int number;
        final Random random;
        final int[] seen;
        final PathReader real = new PathReader();
        final Model model = new Model();
        final StringBuilder log = new StringBuilder();
        int calls = 0;
        int wrong = 0;

        Run(int number, int[] seen) {
            this.number = number;
            this.random = new Random(7919L * number + 13);
            this.seen = seen;
        }

        int play() {
            int style = number % 4;
            if (style != 3) {
                setUp(style);
            }
            while (calls < CALLS && wrong == 0) {
                if (random.nextInt(style == 1 ? 8 : 60) == 0) {
                    tellText();
                } else {
                    randomCall();
                }
            }
            call(20);
            return wrong;
        }

        void setUp(int style) {
            int entries = 2 + random.nextInt(5);
            for (int e = 0; e < entries; e++) {
                int s = random.nextInt(3), z = random.nextInt(3);
                if (s == z) {
                    call(2, s, -1, 0);
                } else {
                    call(2, s, z, random.nextInt(5));
                }
            }
            int density = style == 0 ? 90 : 55;
            for (int h = 0; h < 3; h++) {
                for (int d = 0; d < 3; d++) {
                    for (int side = 0; side < 2; side++) {
                        if (random.nextInt(100) < density) {
                            call(0, h, d, side, random.nextInt(6));
                        }
                    }
                }
            }
            for (int s = 0; s < 3; s++) {
                call(1, s, random.nextInt(4) - (s > 0 ? 1 : 0));
            }
            call(3, 1, random.nextInt(3));
            call(3, 2, random.nextInt(6));
            call(3, 0, random.nextInt(4));
        }

        void tellText() {
            call(CLEAR);
            String text = randomText();
            for (int k = 0; k < text.length(); k++) {
                call(TYPE, text.charAt(k));
            }
            call(DOES);
            call(20);
        }

        String randomText() {
            StringBuilder text = new StringBuilder(blanks());
            int orders = 1 + random.nextInt(6);
            for (int k = 0; k < orders; k++) {
                text.append(randomOrder()).append(blanks());
            }
            if (random.nextInt(3) == 0 && text.length() > 0) {
                int place = random.nextInt(text.length());
                String odd = "efrow-;; 0123456789A/:\t";
                switch (random.nextInt(3)) {
                    case 0: text.deleteCharAt(place); break;
                    case 1: text.insert(place, odd.charAt(random.nextInt(odd.length()))); break;
                    default: text.setLength(place);
                }
            }
            return text.toString();
        }

        String randomOrder() {
            switch (random.nextInt(5)) {
                case 0: return "e" + figures(6, 1) + blanks() + ";";
                case 1: return "f" + figures(6, 3) + blanks() + ";";
                case 2: return "r" + figures(5, 2) + " " + random.nextInt(2) + lastPrice() + ";";
                case 3: return "o" + figures(5, 1) + lastPrice() + ";";
                default: return "w" + figures(3, 1 + random.nextInt(random.nextInt(6) == 0 ? 7 : 3)) + blanks() + ";";
            }
        }

        String lastPrice() {
            return random.nextInt(4) == 0 ? blanks() + "-" + blanks() : " " + figures(9, 1);
        }

        String figures(int most, int count) {
            StringBuilder text = new StringBuilder();
            for (int k = 0; k < count; k++) {
                text.append(k == 0 ? blanks() : " " + blanks());
                int number = random.nextInt(random.nextInt(20) == 0 ? 120 : most + 1);
                text.append(random.nextInt(8) == 0 && number < 10 ? "0" : "").append(number);
            }
            return text.toString();
        }

        String blanks() {
            return random.nextInt(4) == 0 ? " " : random.nextInt(20) == 0 ? "   " : "";
        }

        void randomCall() {
            int op = random.nextInt(4) == 0 ? HEARS : random.nextInt(NAMES.length);
            if (number % 4 == 2 && op < HEARS && random.nextInt(8) != 0) {
                // the same grammar for long, so that there is much to repair
                op = random.nextBoolean() ? HEARS : 3;
            }
            if (op == 8 && random.nextInt(3) != 0) {
                op = 9;
            }
            boolean odd = random.nextInt(25) == 0;
            switch (op) {
                case 0: call(0, sort(odd), sort(odd), pick(2, odd), price(odd)); break;
                case 1: call(1, sort(odd), price(odd)); break;
                case 2: randomEntry(odd); break;
                case 3:
                    int what = pick(3, odd);
                    int most = what == 0 ? 4 : what == 1 ? 3 : 8;
                    call(3, what, random.nextInt(20) == 0 ? 8 + random.nextInt(4) : random.nextInt(20) == 0 ? 100 - random.nextInt(3) : pick(most, odd));
                    break;
                case 4: call(4, sort(odd), sort(odd), pick(2, odd)); break;
                case 5: call(5, pick(Math.max(1, model.now.entries.size()), odd), pick(3, odd)); break;
                case 6: call(6, pick(Math.max(1, model.now.entries.size()), odd)); break;
                case 10: call(10, 1 + pick(Math.max(1, model.now.words.size()), odd), pick(6, odd)); break;
                case 11: call(11, pick(7, odd)); break;
                case 12: call(12, pick(model.now.words.size() + 1, odd), pick(2, odd)); break;
                case TYPE: call(TYPE, random.nextInt(2) == 0 ? pick(128, odd) : "efrow0 12;-".charAt(random.nextInt(11)));
                    break;
                case 19: call(19, pick(9, odd)); break;
                default: call(op);
            }
        }

        void randomEntry(boolean odd) {
            int s = sort(odd), z = sort(odd);
            boolean single = random.nextBoolean();
            call(2, s, single ? -1 : z, single && !odd ? 0 : pick(10, odd));
        }

        int sort(boolean odd) {
            return pick(random.nextInt(4) == 0 ? 6 : 3, odd);
        }

        int price(boolean odd) {
            return random.nextInt(5) == 0 ? -1 : pick(10, odd);
        }

        int pick(int bound, boolean odd) {
            if (odd && random.nextBoolean()) {
                int[] choices = {-1, -2, bound, bound + 1, Integer.MAX_VALUE, Integer.MIN_VALUE};
                return choices[random.nextInt(choices.length)];
            }
            return random.nextInt(bound);
        }

        void call(int op, int... a) {
            if (calls >= 511 || wrong > 0) {
                return;
            }
            calls++;
            StringBuilder told = new StringBuilder(NAMES[op]).append('(');
            for (int k = 0; k < ARGUMENTS[op]; k++) {
                told.append(k == 0 ? "" : ", ").append(a[k]);
            }
            told.append(')');
            long due = model.call(op, a);
            long got = callReal(op, a);
            log.append(told).append(" = ").append(due).append('\n');
            if (got != due) {
                wrong++;
                System.out.println("run " + number + ", calls:\n" + log + told + " answered " + got + ", due is " + due);
            }
            count(op, due);
        }

        void count(int op, long due) {
            if (op == HEARS && due > 0) {
                seen[0]++;
                seen[1] += model.now.words.get(model.now.words.size() - 1).stumble;
            }
            seen[2] += op == HEARS && due == -1 ? 1 : 0;
            seen[3] += op == DOES && due >= 0 ? 1 : 0;
            seen[4] += op == DOES && due <= -10 && due > -1000 ? 1 : 0;
            seen[5] += op == DOES && due <= -1000 ? 1 : 0;
            seen[6] += op == 13 && due > 1 ? 1 : 0;
            seen[7] += op == 18 && due >= 0 ? 1 : 0;
        }

        long callReal(int op, int[] a) {
            switch (op) {
                case 0: return real.rules(a[0], a[1], a[2], a[3]);
                case 1: return real.roots(a[0], a[1]);
                case 2: return real.entry(a[0], a[1], a[2]);
                case 3: return real.sets(a[0], a[1]);
                case 4: return real.rule(a[0], a[1], a[2]);
                case 5: return real.of(a[0], a[1]);
                case 6: return real.hears(a[0]);
                case 7: return real.unhears();
                case 8: return real.silence();
                case 9: return real.rereads();
                case 10: return real.word(a[0], a[1]);
                case 11: return real.held(a[0]);
                case 12: return real.best(a[0], a[1]);
                case 13: return real.ways();
                case 14: return real.sound();
                case 15: return real.type(a[0]);
                case 16: return real.clear();
                case 17: return real.does();
                case 18: return real.back();
                case 19: return real.told(a[0]);
                default: return real.digest();
            }
        }
    }

    private static final class Word {
        int entry, repair, stumble, cost = -1;
        int[] held;

        Word(int entry) {
            this.entry = entry;
        }
    }

    private static final class St {
        int[][][] rule = new int[6][6][2];
        int[] root = {0, -1, -1, -1, -1, -1};
        List<int[]> entries = new ArrayList<>();
        int[] settings = {1, 2, 6};
        List<Word> words = new ArrayList<>();

        St() {
            for (int[][] a : rule) {
                for (int[] b : a) {
                    b[0] = -1;
                    b[1] = -1;
                }
            }
        }

        St copy() {
            St s = new St();
            for (int h = 0; h < 6; h++) {
                for (int d = 0; d < 6; d++) {
                    s.rule[h][d] = rule[h][d].clone();
                }
            }
            s.root = root.clone();
            s.entries = new ArrayList<>(entries);
            s.settings = settings.clone();
            s.words = new ArrayList<>(words);
            return s;
        }
    }

    private static final class Model {
        static final List<List<int[]>> TREES = new ArrayList<>();
        static final String N = "[0-9]{1,2}";
        static final Pattern ORDERS = Pattern.compile(" *((e *" + N + "|f *" + N + " +" + N + " +" + N
            + "|r *" + N + " +" + N + " +" + N + "( +" + N + "| *-)|o *" + N + "( +" + N + "| *-)|w *" + N
            + "( +" + N + "){0,5}) *; *)+");

        St now = new St();
        ArrayDeque<St> states = new ArrayDeque<>();
        int[] refused = new int[3];
        String text = "";

        static {
            for (int n = 0; n <= 6; n++) {
                List<int[]> trees = new ArrayList<>();
                if (n > 0) {
                    listTrees(new int[n + 1], 1, trees);
                }
                TREES.add(trees);
            }
        }

        static void listTrees(int[] heads, int i, List<int[]> trees) {
            int n = heads.length - 1;
            if (i > n) {
                if (isTree(heads)) {
                    trees.add(heads.clone());
                }
                return;
            }
            for (int h = 0; h <= n; h++) {
                if (h != i) {
                    heads[i] = h;
                    listTrees(heads, i + 1, trees);
                }
            }
        }

        static boolean isTree(int[] heads) {
            int n = heads.length - 1, roots = 0;
            for (int i = 1; i <= n; i++) {
                roots += heads[i] == 0 ? 1 : 0;
                if (!comesTo(heads, i, 0)) {
                    return false;
                }
                for (int k = Math.min(i, heads[i]) + 1; heads[i] != 0 && k < Math.max(i, heads[i]); k++) {
                    if (!comesTo(heads, k, heads[i])) {
                        return false;
                    }
                }
            }
            return roots == 1;
        }

        static boolean comesTo(int[] heads, int from, int to) {
            int at = from;
            for (int step = 0; step < heads.length; step++) {
                if (at == 0) {
                    return false;
                }
                at = heads[at];
                if (at == to) {
                    return true;
                }
            }
            return false;
        }

        long refuse(long why) {
            refused[(int) (-2 - why)]++;
            return why;
        }

        void leave(St state) {
            states.push(state);
            if (states.size() > 6) {
                states.removeLast();
            }
        }

        static boolean in(int v, int low, int high) {
            return v >= low && v <= high;
        }

        long call(int op, int[] a) {
            if (op <= 3 || op >= 6 && op <= 9) {
                St was = now.copy();
                long answer = change(op, a);
                if (answer < -1) {
                    return refuse(answer);
                }
                leave(was);
                return answer;
            }
            long answer = ask(op, a);
            return op != 20 && op != DOES && answer < -1 ? refuse(answer) : answer;
        }

        /** What a call that is told S does; below -1: refused, nothing done. */
        long change(int op, int[] a) {
            switch (op) {
                case 0:
                    if (!in(a[0], 0, 5) || !in(a[1], 0, 5) || !in(a[2], 0, 1) || !in(a[3], -1, 9)) {
                        return -2;
                    }
                    int price = now.rule[a[0]][a[1]][a[2]];
                    now.rule[a[0]][a[1]][a[2]] = a[3];
                    return price;
                case 1:
                    if (!in(a[0], 0, 5) || !in(a[1], -1, 9)) {
                        return -2;
                    }
                    int root = now.root[a[0]];
                    now.root[a[0]] = a[1];
                    return root;
                case 2:
                    if (!in(a[0], 0, 5) || !in(a[1], -1, 5) || a[0] == a[1] || !in(a[2], 0, a[1] == -1 ? 0 : 9)) {
                        return -2;
                    }
                    if (now.entries.size() == 12) {
                        return -4;
                    }
                    now.entries.add(a.clone());
                    return now.entries.size() - 1;
                case 3:
                    if (!in(a[0], 0, 2) || !in(a[1], 0, a[0] == 0 ? 3 : a[0] == 1 ? 9 : 99)) {
                        return -2;
                    }
                    int was = now.settings[a[0]];
                    now.settings[a[0]] = a[1];
                    return was;
                case 6: return hear(a[0]);
                case 7:
                    if (now.words.isEmpty()) {
                        return -3;
                    }
                    now.words.remove(now.words.size() - 1);
                    return now.words.size();
                case 8:
                    int had = now.words.size();
                    now.words.clear();
                    return had;
                default:
                    List<Word> all = now.words;
                    now.words = new ArrayList<>();
                    for (Word w : all) {
                        hear(w.entry);
                    }
                    return stuck() ? -1 : stumbles();
            }
        }

        int hear(int e) {
            if (!in(e, 0, now.entries.size() - 1)) {
                return -2;
            }
            if (now.words.size() == 6) {
                return -4;
            }
            boolean was = stuck();
            int[] before = held();
            Word w = new Word(e);
            now.words.add(w);
            int[][] found = was ? null : cheapest(before, now.settings[1]);
            if (found == null) {
                return -1;
            }
            w.held = found[0];
            w.cost = found[1][0];
            w.repair = found[1][1];
            w.stumble = w.repair > now.settings[2] ? 1 : 0;
            return w.repair;
        }

        int[] held() {
            return now.words.isEmpty() ? null : now.words.get(now.words.size() - 1).held;
        }

        boolean stuck() {
            return !now.words.isEmpty() && held() == null;
        }

        int stumbles() {
            int sum = 0;
            for (Word w : now.words) {
                sum += w.stumble;
            }
            return sum;
        }

        int waysFound;

        /** The row, then {COST, REPAIR}; null: there is none. Rows: reading, head, reading, head, .. */
        int[][] cheapest(int[] before, int weight) {
            int n = now.words.size();
            int[][] best = null;
            waysFound = 0;
            for (int[] heads : TREES.get(n)) {
                for (int readings = 0; readings < 1 << n; readings++) {
                    int cost = costOf(heads, readings);
                    if (cost < 0) {
                        continue;
                    }
                    waysFound++;
                    int[] row = new int[2 * n];
                    for (int i = 1; i <= n; i++) {
                        row[2 * i - 2] = readings >> (i - 1) & 1;
                        row[2 * i - 1] = heads[i];
                    }
                    int repair = 0;
                    for (int i = 1; i < n && before != null; i++) {
                        boolean other = row[2 * i - 2] != before[2 * i - 2];
                        boolean moved = before[2 * i - 1] != 0 && before[2 * i - 1] != row[2 * i - 1];
                        repair += other || moved ? weight * (n - i) : 0;
                    }
                    if (best == null || isAhead(cost, repair, row, best)) {
                        best = new int[][] {row, {cost, repair}};
                    }
                }
            }
            return best;
        }

        static boolean isAhead(int cost, int repair, int[] row, int[][] best) {
            int was = best[1][0] + best[1][1];
            if (cost + repair != was) {
                return cost + repair < was;
            }
            if (repair != best[1][1]) {
                return repair < best[1][1];
            }
            for (int k = 0; k < row.length; k++) {
                if (row[k] != best[0][k]) {
                    return row[k] < best[0][k];
                }
            }
            return false;
        }

        int costOf(int[] heads, int readings) {
            int sum = 0;
            for (int i = 1; i < heads.length; i++) {
                int sort = sortOf(i, readings);
                if (sort < 0) {
                    return -1;
                }
                int price;
                if (heads[i] == 0) {
                    price = now.root[sort];
                } else {
                    int headSort = sortOf(heads[i], readings);
                    price = headSort < 0 ? -1 : now.rule[headSort][sort][i < heads[i] ? 0 : 1];
                    sum += now.settings[0] * (Math.abs(i - heads[i]) - 1);
                }
                if (price < 0) {
                    return -1;
                }
                sum += price + ((readings >> (i - 1) & 1) == 1 ? now.entries.get(now.words.get(i - 1).entry)[2] : 0);
            }
            return sum;
        }

        int sortOf(int i, int readings) {
            return now.entries.get(now.words.get(i - 1).entry)[readings >> (i - 1) & 1];
        }

        long ask(int op, int[] a) {
            int n = now.words.size();
            switch (op) {
                case 4:
                    return in(a[0], 0, 5) && in(a[1], 0, 5) && in(a[2], 0, 1) ? now.rule[a[0]][a[1]][a[2]] : -2;
                case 5:
                    return in(a[0], 0, now.entries.size() - 1) && in(a[1], 0, 2) ? now.entries.get(a[0])[a[1]] : -2;
                case 10: return in(a[0], 1, n) && in(a[1], 0, 5) ? word(a[0], a[1]) : -2;
                case 11: return in(a[0], 0, 6) ? heldOf(a[0]) : -2;
                case 12:
                    if (!in(a[1], 0, 1) || !in(a[0], 0, n)) {
                        return -2;
                    }
                    int[][] best = cheapest(null, 0);
                    return best == null ? -1 : a[0] == 0 ? best[1][0] : best[0][2 * a[0] - 2 + a[1]];
                case 13:
                    cheapest(null, 0);
                    return waysFound;
                case 14: return isSound() ? 1 : 0;
                case TYPE:
                    if (!in(a[0], 0, 127)) {
                        return -2;
                    }
                    if (text.length() == 120) {
                        return -4;
                    }
                    text += (char) a[0];
                    return text.length();
                case CLEAR:
                    int had = text.length();
                    text = "";
                    return had;
                case DOES: return does();
                case 18:
                    if (states.isEmpty()) {
                        return -3;
                    }
                    now = states.pop();
                    return states.size();
                case 19: return in(a[0], 0, 8) ? told(a[0]) : -2;
                default: return digest();
            }
        }

        int told(int what) {
            int[] all = {refused[0], refused[1], refused[2], now.entries.size(), now.settings[0], now.settings[1],
                now.settings[2], text.length(), states.size()};
            return all[what];
        }

        int word(int i, int what) {
            Word w = now.words.get(i - 1);
            int[] row = held();
            int[] all = {w.entry, row == null ? -1 : row[2 * i - 2], row == null ? -1 : row[2 * i - 1], w.repair,
                w.stumble, w.cost};
            return all[what];
        }

        int heldOf(int what) {
            int n = now.words.size(), repairs = 0, root = -1, deepest = -1;
            int[] row = held();
            for (int i = 1; i <= n; i++) {
                repairs += now.words.get(i - 1).repair;
                int level = 0;
                for (int at = i; row != null && row[2 * at - 1] != 0; at = row[2 * at - 1]) {
                    level++;
                }
                deepest = row == null ? -1 : Math.max(deepest, level);
                root = row != null && row[2 * i - 1] == 0 ? i : root;
            }
            int cost = n == 0 ? -1 : now.words.get(n - 1).cost;
            int[] all = {n, stuck() ? 1 : 0, stumbles(), repairs, cost, root, deepest};
            return all[what];
        }

        boolean isSound() {
            int[] row = held();
            if (row == null) {
                return false;
            }
            int n = row.length / 2, readings = 0;
            int[] heads = new int[n + 1];
            for (int i = 1; i <= n; i++) {
                readings |= row[2 * i - 2] << (i - 1);
                heads[i] = row[2 * i - 1];
            }
            return costOf(heads, readings) >= 0;
        }

        static boolean canBegin(String prefix) {
            Matcher m = ORDERS.matcher(prefix);
            return m.matches() || m.hitEnd();
        }

        long does() {
            if (!ORDERS.matcher(text).matches()) {
                for (int k = 0; k < text.length(); k++) {
                    if (!canBegin(text.substring(0, k + 1))) {
                        return -10 - k;
                    }
                }
                return -10 - text.length();
            }
            St was = now.copy();
            String[] orders = text.trim().split(";");
            int count = 0;
            for (String order : orders) {
                if (!doOrder(order.trim())) {
                    now = was;
                    return -1000 - count;
                }
                count++;
            }
            leave(was);
            return count;
        }

        boolean doOrder(String order) {
            String[] parts = order.substring(1).replace("-", " -1 ").trim().split(" +");
            int[] v = new int[parts.length];
            for (int k = 0; k < v.length; k++) {
                v[k] = Integer.parseInt(parts[k]);
            }
            switch (order.charAt(0)) {
                case 'e': return change(2, new int[] {v[0], -1, 0}) >= -1;
                case 'f': return change(2, v) >= -1;
                case 'r': return change(0, v) >= -1;
                case 'o': return change(1, v) >= -1;
                default:
                    for (int e : v) {
                        if (hear(e) < -1) {
                            return false;
                        }
                    }
                    return true;
            }
        }

        long digest() {
            List<Integer> all = new ArrayList<>();
            for (int k = 0; k <= 8; k++) {
                all.add(told(k));
            }
            for (int k = 0; k <= 6; k++) {
                all.add(heldOf(k));
            }
            for (int i = 1; i <= now.words.size(); i++) {
                for (int k = 0; k <= 5; k++) {
                    all.add(word(i, k));
                }
            }
            for (int[] e : now.entries) {
                for (int v : e) {
                    all.add(v);
                }
            }
            for (int v : now.root) {
                all.add(v);
            }
            for (int[][] b : now.rule) {
                for (int[] c : b) {
                    all.add(c[0]);
                    all.add(c[1]);
                }
            }
            all.add(isSound() ? 1 : 0);
            long h = 2605;
            for (int v : all) {
                h = 31 * h + v;
            }
            return h;
        }
    }
}
