import java.math.BigInteger;
import java.util.ArrayList;
import java.util.Arrays;
import java.util.HashMap;
import java.util.List;
import java.util.Map;
import java.util.Random;
import java.util.regex.Matcher;
import java.util.regex.Pattern;

/** Chance runs of calls on DaysBag and on a slow model that is read off the document another way. */
public final class ModelTest {
    /** A step may feed a whole tape: with it a run stays within the 512 calls of which answers are promised. */
    private static final int RUNS = 90, CALLS = 410;
    private static int wrong = 0;

    public static void main(String[] args) {
        int from = args.length > 0 ? Integer.parseInt(args[0]) : 0;
        int runs = args.length > 1 ? Integer.parseInt(args[1]) : RUNS;
        for (int seed = from; seed < from + runs && wrong < 10; seed++) {
            new Run(seed).go();
        }
        System.out.println(wrong == 0 ? "the model answers alike" : wrong + " answers differ from the model's");
        if (wrong != 0) {
            System.exit(1);
        }
    }

    /** One run: the calls so far are kept, so that a wrong answer can be told with them. */
    private static final class Run {
        final Random chance;
        final int seed;
        final DaysBag real = new DaysBag();
        final Model model = new Model();
        final boolean big;
        final List<String> calls = new ArrayList<>();

        Run(int seed) {
            this.seed = seed;
            chance = new Random(seed);
            big = seed % 8 == 0;
        }

        void go() {
            int before = wrong;
            for (int sort = 0; sort < 3; sort++) {
                int n = big ? chance.nextInt(6) : chance.nextInt(3);
                due("bag(" + sort + "," + n + ")", real.bag(sort, n), model.bag(sort, n));
            }
            tape(Texts.valley(chance));
            due("valley()", real.valley(), model.valley());
            for (int kind = 0; kind < 7; kind++) {
                int v = chance.nextInt(10);
                due("worker(" + kind + "," + v + ")", real.worker(kind, v), model.worker(kind, v));
            }
            while (calls.size() < CALLS && wrong == before) {
                step();
            }
        }

        void tape(String text) {
            for (int i = 0; i < text.length(); i++) {
                int sign = text.charAt(i);
                due("feed(" + sign + ")", real.feed(sign), model.feed(sign));
            }
        }

        void due(String call, long got, long want) {
            calls.add(call);
            if (got != want) {
                wrong++;
                System.out.println("seed " + seed + ", call " + calls.size() + ": " + call + " answered " + got
                    + ", the model " + want + "; bag " + Arrays.toString(model.bag) + " day " + model.day
                    + " stages " + Arrays.toString(model.stage) + " valley " + model.held);
            }
        }

        int upTo(int n) {
            int odd = chance.nextInt(40);
            if (odd == 0) {
                return -1;
            }
            if (odd == 1) {
                return n + 1;
            }
            if (odd == 2) {
                return chance.nextInt();
            }
            return chance.nextInt(n + 1);
        }

        int sort() {
            return upTo(2);
        }

        int part() {
            return upTo(1);
        }

        int hand() {
            return upTo(Math.max(0, model.workers.size() - 1));
        }

        void step() {
            int which = chance.nextInt(46);
            if (which < 16) {
                change(which);
            } else if (which < 32) {
                askOdds(which - 16);
            } else {
                askMore(which - 32);
            }
        }

        void change(int which) {
            int a = hand();
            int s = sort();
            switch (which) {
                case 0: {
                    int n = big ? upTo(5) : upTo(2);
                    due("bag(" + s + "," + n + ")", real.bag(s, n), model.bag(s, n));
                    break;
                }
                case 1: {
                    if (chance.nextInt(3) == 0) {
                        tape(Texts.broken(chance));
                        due("valley()", real.valley(), model.valley());
                    }
                    break;
                }
                case 2: {
                    int k = upTo(2);
                    int n = upTo(2);
                    due("stage(" + k + "," + n + ")", real.stage(k, n), model.stage(k, n));
                    break;
                }
                case 3: {
                    int n = upTo(3);
                    due("row(" + a + "," + s + "," + n + ")", real.row(a, s, n), model.row(a, s, n));
                    break;
                }
                case 4:
                case 5:
                case 6: {
                    due("draw(" + a + "," + s + ")", real.draw(a, s), model.draw(a, s));
                    break;
                }
                case 7:
                case 8: {
                    int b = chance.nextInt(25) == 0 ? -1 : s;
                    due("book(" + b + ")", real.book(b), model.book(b));
                    break;
                }
                case 9: {
                    int n = upTo(5);
                    due("other(" + s + "," + n + ")", real.other(s, n), model.other(s, n));
                    break;
                }
                case 10: {
                    int act = upTo(2);
                    int x = chance.nextBoolean() ? chance.nextInt() : chance.nextInt(20) - 10;
                    due("act(" + a + "," + act + "," + x + ")", real.act(a, act, x), model.act(a, act, x));
                    break;
                }
                case 11: {
                    if (chance.nextInt(4) == 0) {
                        due("image()", real.image(), model.image());
                    }
                    break;
                }
                case 12: {
                    if (chance.nextInt(4) == 0) {
                        due("undo()", real.undo(), model.undo());
                    }
                    break;
                }
                case 13: {
                    int k = upTo(6);
                    int v = upTo(9);
                    due("worker(" + k + "," + v + ")", real.worker(k, v), model.worker(k, v));
                    break;
                }
                case 14: {
                    int sign = upTo(127);
                    if (chance.nextInt(6) == 0) {
                        due("feed(" + sign + ")", real.feed(sign), model.feed(sign));
                    }
                    break;
                }
                default: {
                    int w = chance.nextInt(36);
                    due("told(" + w + ")", real.told(w), model.told(w));
                    break;
                }
            }
        }

        void askOdds(int which) {
            int s = sort();
            int p = part();
            switch (which) {
                case 0:
                    due("next(" + s + "," + p + ")", real.next(s, p), model.next(s, p));
                    break;
                case 1: {
                    int n = upTo(5);
                    due("run(" + s + "," + n + "," + p + ")", real.run(s, n, p), model.run(s, n, p));
                    break;
                }
                case 2:
                case 3: {
                    int n = big ? upTo(15) : upTo(6);
                    int m = upTo(5);
                    due("by(" + s + "," + n + "," + m + "," + p + ")", real.by(s, n, m, p), model.by(s, n, m, p));
                    break;
                }
                case 4:
                    due("first(" + s + "," + p + ")", real.first(s, p), model.first(s, p));
                    break;
                case 5: {
                    int o = sort();
                    due("before(" + s + "," + o + "," + p + ")", real.before(s, o, p), model.before(s, o, p));
                    break;
                }
                case 6:
                    due("orders()", real.orders(), model.orders());
                    break;
                case 7:
                case 8:
                case 9: {
                    int n = big ? upTo(15) : upTo(6);
                    due("cover(" + s + "," + n + "," + p + ")", real.cover(s, n, p), model.cover(s, n, p));
                    break;
                }
                case 10:
                case 11:
                    due("likely(" + p + ")", real.likely(p), model.likely(p));
                    break;
                case 12:
                    due("same()", real.same(), model.same());
                    break;
                case 13: {
                    int i = upTo(8);
                    due("trace(" + i + ")", real.trace(i), model.trace(i));
                    break;
                }
                case 14: {
                    int a = hand();
                    int k = upTo(6);
                    due("as(" + a + "," + k + ")", real.as(a, k), model.as(a, k));
                    break;
                }
                default: {
                    int w = upTo(4);
                    due("count(" + w + ")", real.count(w), model.count(w));
                    break;
                }
            }
        }

        void askMore(int which) {
            int s = sort();
            int p = part();
            int a = hand();
            switch (which) {
                case 0:
                case 1:
                case 2:
                case 3: {
                    int w = upTo(2);
                    due("mean(" + a + "," + w + "," + p + ")", real.mean(a, w, p), model.mean(a, w, p));
                    break;
                }
                case 4:
                    due("today(" + s + ")", real.today(s), model.today(s));
                    break;
                case 5:
                    due("whatever()", real.whatever(), model.whatever());
                    break;
                case 6:
                    due("most()", real.most(), model.most());
                    break;
                case 7:
                    due("put(" + s + "," + p + ")", real.put(s, p), model.put(s, p));
                    break;
                case 8:
                    due("pass(" + s + "," + p + ")", real.pass(s, p), model.pass(s, p));
                    break;
                case 9:
                    due("right(" + s + "," + p + ")", real.right(s, p), model.right(s, p));
                    break;
                case 10:
                case 11: {
                    int w = upTo(1);
                    due("judged(" + a + "," + w + ")", real.judged(a, w), model.judged(a, w));
                    break;
                }
                default: {
                    int w = chance.nextInt(5) == 0 ? upTo(1) : 10 + sort();
                    due("of(" + a + "," + w + ")", real.of(a, w), model.of(a, w));
                    break;
                }
            }
        }
    }

    /** Texts of valleys, sound ones and broken ones. */
    private static final class Texts {
        static String valley(Random chance) {
            StringBuilder text = new StringBuilder();
            int clauses = 3 + chance.nextInt(5);
            for (int i = 0; i < clauses; i++) {
                String clause = clause(chance);
                if (text.length() + clause.length() + 1 > 100) {
                    break;
                }
                text.append(text.length() > 0 ? ";" : "").append(clause);
            }
            return text.length() == 0 ? "can 0 s<9;can 1 r>0" : text.toString();
        }

        static String clause(Random chance) {
            switch (chance.nextInt(6)) {
                case 0:
                    return "pay " + chance.nextInt(3) + " " + chance.nextInt(chance.nextBoolean() ? 6 : 100);
                case 1:
                    return "cover " + chance.nextInt(100);
                default:
                    return "can " + chance.nextInt(3) + " " + either(chance, 0);
            }
        }

        static String either(Random chance, int open) {
            String left = both(chance, open);
            return chance.nextInt(4) == 0 ? left + "|" + either(chance, open) : left;
        }

        static String both(Random chance, int open) {
            String left = factor(chance, open);
            return chance.nextInt(4) == 0 ? left + "&" + both(chance, open) : left;
        }

        static String factor(Random chance, int open) {
            int which = chance.nextInt(8);
            if (which == 0 && open < 5) {
                return "!" + factor(chance, open + 1);
            }
            if (which == 1 && open < 5) {
                return "(" + either(chance, open + 1) + ")";
            }
            char sign = "ssglrd".charAt(chance.nextInt(6));
            int n = sign == 's' ? chance.nextInt(3) : sign == 'g' ? chance.nextInt(2) : chance.nextInt(6);
            return sign + "" + "<=>".charAt(chance.nextInt(3)) + n;
        }

        static String broken(Random chance) {
            StringBuilder text = new StringBuilder(valley(chance));
            int changes = chance.nextInt(3);
            for (int i = 0; i < changes; i++) {
                int at = chance.nextInt(text.length());
                char sign = "canpyover 0129;!()|&sglrd<=>".charAt(chance.nextInt(28));
                if (chance.nextBoolean()) {
                    text.setCharAt(at, sign);
                } else if (text.length() < 100) {
                    text.insert(at, sign);
                }
            }
            if (chance.nextInt(4) == 0) {
                text.setLength(chance.nextInt(text.length()));
            }
            return text.toString();
        }
    }

    /** Whether a text is a valley, and whether it may become one, by trying what could follow. */
    private static final class Grammar {
        private static final String NUMBER = "(0|[1-9][0-9]?)";
        private static final Pattern TEST = Pattern.compile("[sglrd][<=>]" + NUMBER);
        private static final Pattern PAY = Pattern.compile("pay [012] " + NUMBER);
        private static final Pattern COVER = Pattern.compile("cover " + NUMBER);
        private static final List<String> ENDS = ends();

        private static List<String> ends() {
            List<String> ends = new ArrayList<>();
            for (String word : new String[] {"can 0 s=0", "pay 0 0", "cover 0"}) {
                for (int i = 0; i <= word.length(); i++) {
                    String end = word.substring(i);
                    for (int n = 0; n <= 5; n++) {
                        ends.add(end + ")".repeat(n));
                    }
                }
            }
            return ends;
        }

        static int fault(String text) {
            for (int i = 0; i < text.length(); i++) {
                if (!mayBecome(text.substring(0, i + 1))) {
                    return i;
                }
            }
            return isValley(text) ? -1 : text.length();
        }

        static boolean mayBecome(String text) {
            for (String end : ENDS) {
                if (isValley(text + end)) {
                    return true;
                }
            }
            return false;
        }

        static boolean isValley(String text) {
            String[] clauses = text.split(";", -1);
            if (clauses.length > 10) {
                return false;
            }
            for (String clause : clauses) {
                boolean can = clause.matches("can [012] .*") && isCondition(clause.substring(6));
                if (!can && !PAY.matcher(clause).matches() && !COVER.matcher(clause).matches()) {
                    return false;
                }
            }
            return true;
        }

        static boolean isCondition(String text) {
            String short_ = TEST.matcher(text).replaceAll("F");
            if (!short_.matches("[F!()&|]*") || open(short_) > 5) {
                return false;
            }
            for (int i = 0; i < 200; i++) {
                short_ = short_.replace("!F", "F").replace("(F)", "F").replace("F&F", "F").replace("F|F", "F");
            }
            return short_.equals("F");
        }

        private static int open(String tokens) {
            StringBuilder stack = new StringBuilder();
            int most = 0;
            for (char token : tokens.toCharArray()) {
                if (token == '!' || token == '(') {
                    stack.append(token);
                    most = Math.max(most, stack.length());
                } else if (token == ')' && stack.length() > 0) {
                    stack.setLength(stack.length() - 1);
                }
                while ((token == 'F' || token == ')') && stack.length() > 0
                        && stack.charAt(stack.length() - 1) == '!') {
                    stack.setLength(stack.length() - 1);
                }
            }
            return most;
        }
    }

    /** A fraction in lowest terms. */
    private static final class Part implements Comparable<Part> {
        static final Part ZERO = new Part(BigInteger.ZERO, BigInteger.ONE), ONE = of(1, 1);
        final BigInteger above;
        final BigInteger below;

        Part(BigInteger above, BigInteger below) {
            BigInteger common = above.gcd(below);
            this.above = above.divide(common);
            this.below = below.divide(common);
        }

        static Part of(long above, long below) {
            return new Part(BigInteger.valueOf(above), BigInteger.valueOf(below));
        }

        Part plus(Part o) {
            return new Part(above.multiply(o.below).add(o.above.multiply(below)), below.multiply(o.below));
        }

        Part less(Part o) {
            return plus(new Part(o.above.negate(), o.below));
        }

        Part times(Part o) {
            return new Part(above.multiply(o.above), below.multiply(o.below));
        }

        long part(int which) {
            return (which == 0 ? above : below).longValueExact();
        }

        @Override
        public int compareTo(Part o) {
            return above.multiply(o.below).compareTo(o.above.multiply(below));
        }
    }

    /** The document once more: odds step by step with fractions, texts read anew for every question. */
    private static final class Model {
        static final long NO = Long.MIN_VALUE;
        int[] bag = new int[3];
        int[] second = new int[3];
        int[] stage = new int[3];
        int day = 0;
        String tape = "";
        String held = "";
        int valleys = 0;
        List<int[]> workers = new ArrayList<>();
        List<Integer> book = new ArrayList<>();
        List<Integer> trace = new ArrayList<>();
        Model kept = null;
        final Map<String, Part> memo = new HashMap<>();
        final Map<String, Boolean> conditions = new HashMap<>();
        int barred = -1;
        int barredLeft = -1;

        void takeOver(Model from) {
            bag = from.bag.clone();
            second = from.second.clone();
            stage = from.stage.clone();
            day = from.day;
            tape = from.tape;
            held = from.held;
            valleys = from.valleys;
            workers = new ArrayList<>();
            for (int[] one : from.workers) {
                workers.add(one.clone());
            }
            book = new ArrayList<>(from.book);
            memo.clear();
        }

        int rest() {
            return bag[0] + bag[1] + bag[2];
        }

        boolean sort(int s) {
            return s >= 0 && s <= 2;
        }

        boolean part(int p) {
            return p == 0 || p == 1;
        }

        boolean hand(int w) {
            return w >= 0 && w < workers.size();
        }

        int bag(int s, int n) {
            if (!sort(s)) {
                return -1;
            }
            if (n < 0 || n > 5) {
                return -2;
            }
            int had = bag[s];
            bag[s] = n;
            memo.clear();
            return had;
        }

        int feed(int sign) {
            if (sign < 0 || sign > 127) {
                return -2;
            }
            if (tape.length() == 100) {
                return -4;
            }
            tape += (char) sign;
            return tape.length();
        }

        int valley() {
            if (valleys == 5) {
                return -4;
            }
            int fault = Grammar.fault(tape);
            String text = tape;
            tape = "";
            if (fault >= 0) {
                return -10 - fault;
            }
            held = text;
            memo.clear();
            conditions.clear();
            return valleys++;
        }

        int lastOf(String head, int without) {
            int n = without;
            for (String clause : held.split(";")) {
                if (clause.startsWith(head)) {
                    n = Integer.parseInt(clause.substring(head.length()));
                }
            }
            return n;
        }

        int pay(int k) {
            return lastOf("pay " + k + " ", 1);
        }

        boolean can(int k, int g, int s, int l, int r, int d) {
            if (g == 2) {
                return false;
            }
            for (String clause : held.split(";")) {
                if (clause.startsWith("can " + k) && holds(clause.substring(6), new int[] {s, g, l, r, d})) {
                    return true;
                }
            }
            return false;
        }

        boolean holds(String text, int[] values) {
            String key = text + Arrays.toString(values);
            Boolean known = conditions.get(key);
            if (known == null) {
                known = condition(text, values);
                conditions.put(key, known);
            }
            return known;
        }

        boolean condition(String text, int[] values) {
            for (char sign : new char[] {'|', '&'}) {
                int at = outside(text, sign);
                if (at >= 0) {
                    boolean left = condition(text.substring(0, at), values);
                    boolean right = condition(text.substring(at + 1), values);
                    return sign == '|' ? left || right : left && right;
                }
            }
            if (text.charAt(0) == '!') {
                return !condition(text.substring(1), values);
            }
            if (text.charAt(0) == '(') {
                return condition(text.substring(1, text.length() - 1), values);
            }
            int value = values["sglrd".indexOf(text.charAt(0))];
            int n = Integer.parseInt(text.substring(2));
            char relation = text.charAt(1);
            return relation == '<' ? value < n : relation == '=' ? value == n : value > n;
        }

        int outside(String text, char sign) {
            int open = 0;
            for (int i = 0; i < text.length(); i++) {
                char c = text.charAt(i);
                open += c == '(' ? 1 : c == ')' ? -1 : 0;
                if (open == 0 && c == sign) {
                    return i;
                }
            }
            return -1;
        }

        int told(int what) {
            if (what == 0) {
                return lastOf("cover ", 0);
            }
            if (what == 1) {
                return day;
            }
            if (what == 2) {
                return rest();
            }
            if (what < 10 || what % 10 > 2 || what >= 40) {
                return -1;
            }
            return what < 20 ? pay(what - 10) : what < 30 ? stage[what - 20] : bag[what - 30];
        }

        int stage(int k, int n) {
            if (!sort(k)) {
                return -1;
            }
            if (n < 0 || n > 2) {
                return -2;
            }
            int was = stage[k];
            stage[k] = n;
            return was;
        }

        int worker(int kind, int v) {
            if (kind < 0 || kind > 6) {
                return -1;
            }
            if (v < 0 || v > 9) {
                return -2;
            }
            if (workers.size() == 8) {
                return -4;
            }
            workers.add(new int[] {kind, v, 3, 3, 3});
            return workers.size() - 1;
        }

        int row(int w, int s, int n) {
            if (!hand(w) || !sort(s)) {
                return -1;
            }
            if (n < 0 || n > 3) {
                return -2;
            }
            if (workers.get(w)[0] != 6) {
                return -3;
            }
            int was = workers.get(w)[2 + s];
            workers.get(w)[2 + s] = n;
            memo.clear();
            return was;
        }

        /** With the day taken out of the bag and the day's number still the old one; -5: none. */
        int does(int[] one, int s) {
            List<Integer> cans = new ArrayList<>();
            if (s != barred || bag[s] != barredLeft) {
                for (int k = 0; k < 3; k++) {
                    if (can(k, stage[k], s, rest(), bag[s], day)) {
                        cans.add(k);
                    }
                }
            }
            int least = cans.isEmpty() ? -5 : cans.get(0);
            switch (one[0]) {
                case 0:
                    return -5;
                case 1:
                    return least;
                case 2: {
                    int pick = least;
                    for (int k : cans) {
                        pick = pay(k) > pay(pick) ? k : pick;
                    }
                    return pick;
                }
                case 3:
                    return rest() <= one[1] ? least : -5;
                case 4: {
                    for (int k : cans) {
                        if (stage[k] == 1) {
                            return k;
                        }
                    }
                    return least;
                }
                case 5: {
                    int pick = -5;
                    Part most = worth(-5);
                    for (int k : cans) {
                        Part then = worth(k);
                        if (then.compareTo(most) > 0) {
                            pick = k;
                            most = then;
                        }
                    }
                    return pick;
                }
                case 6:
                    if (cans.contains(one[2 + s])) {
                        return one[2 + s];
                    }
                    return rest() <= one[1] ? least : -5;
                default: // one who does the work v alone
                    return cans.contains(one[1]) ? one[1] : -5;
            }
        }

        static final int[] BEST = {5, 0};

        Part worth(int k) {
            int paid = doWork(k);
            day++;
            Part sum = Part.of(paid, 1).plus(value(BEST, 0));
            day--;
            undoWork(k);
            return sum;
        }

        int doWork(int k) {
            if (k < 0) {
                return 0;
            }
            stage[k]++;
            return stage[k] == 2 ? pay(k) : 0;
        }

        void undoWork(int k) {
            if (k >= 0) {
                stage[k]--;
            }
        }

        /** What: 0 the mean of what is paid; else the odds that these works (bits) are done at last. */
        Part value(int[] one, int what) {
            if (rest() == 0) {
                for (int k = 0; k < 3; k++) {
                    if ((what >> k & 1) == 1 && stage[k] != 2) {
                        return Part.ZERO;
                    }
                }
                return what == 0 ? Part.ZERO : Part.ONE;
            }
            String key = Arrays.toString(one) + what + Arrays.toString(bag) + Arrays.toString(stage) + day
                + "," + barred + "," + barredLeft;
            Part known = memo.get(key);
            if (known == null) {
                known = Part.ZERO;
                for (int s = 0; s < 3; s++) {
                    if (bag[s] > 0) {
                        Part odds = Part.of(bag[s], rest());
                        known = known.plus(odds.times(valueOf(one, what, s)));
                    }
                }
                memo.put(key, known);
            }
            return known;
        }

        Part valueOf(int[] one, int what, int s) {
            bag[s]--;
            int k = does(one, s);
            int paid = doWork(k);
            day++;
            Part then = value(one, what);
            day--;
            undoWork(k);
            bag[s]++;
            return what == 0 ? then.plus(Part.of(paid, 1)) : then;
        }

        int wouldDo(int[] one, int s) {
            bag[s]--;
            int k = does(one, s);
            bag[s]++;
            return k;
        }

        int of(int w, int what) {
            if (!hand(w)) {
                return -1;
            }
            if (what == 0 || what == 1) {
                return workers.get(w)[what];
            }
            if (what < 10 || what > 12) {
                return -1;
            }
            return bag[what - 10] == 0 ? -5 : wouldDo(workers.get(w), what - 10);
        }

        int draw(int w, int s) {
            if (!hand(w) || !sort(s)) {
                return -1001;
            }
            if (bag[s] == 0 || day == 99) {
                return -1002;
            }
            bag[s]--;
            int paid = doWork(does(workers.get(w), s));
            day++;
            return paid;
        }

        long next(int s, int p) {
            if (!sort(s) || !part(p)) {
                return NO;
            }
            return (rest() == 0 ? Part.ZERO : Part.of(bag[s], rest())).part(p);
        }

        long run(int s, int n, int p) {
            if (!sort(s) || !part(p) || n < 1 || n > 5) {
                return NO;
            }
            Part odds = Part.ONE;
            for (int i = 0; i < n; i++) {
                odds = rest() - i <= 0 ? Part.ZERO : odds.times(Part.of(Math.max(0, bag[s] - i), rest() - i));
            }
            return odds.part(p);
        }

        Part atLeast(int have, int rest, int n, int m) {
            if (n == 0) {
                return m <= 0 ? Part.ONE : Part.ZERO;
            }
            Part odds = Part.ZERO;
            if (have > 0) {
                odds = odds.plus(Part.of(have, rest).times(atLeast(have - 1, rest - 1, n - 1, m - 1)));
            }
            if (rest > have) {
                odds = odds.plus(Part.of(rest - have, rest).times(atLeast(have, rest - 1, n - 1, m)));
            }
            return odds;
        }

        long by(int s, int n, int m, int p) {
            if (!sort(s) || !part(p) || n < 1 || n > 15 || m < 0 || m > 5 || n > rest()) {
                return NO;
            }
            return atLeast(bag[s], rest(), n, m).part(p);
        }

        long first(int s, int p) {
            if (!sort(s) || !part(p) || bag[s] == 0) {
                return NO;
            }
            Part mean = Part.ZERO;
            Part still = Part.ONE;
            for (int i = 0; i < rest(); i++) {
                Part now = Part.of(bag[s], rest() - i).times(still);
                mean = mean.plus(now.times(Part.of(i + 1, 1)));
                still = still.less(now);
            }
            return mean.part(p);
        }

        Part ahead(int a, int b, int c) {
            if (a == 0) {
                return Part.ZERO;
            }
            Part odds = Part.of(a, a + b + c);
            return c == 0 ? odds : odds.plus(Part.of(c, a + b + c).times(ahead(a, b, c - 1)));
        }

        long before(int s, int o, int p) {
            if (!sort(s) || !sort(o) || !part(p) || s == o || bag[s] + bag[o] == 0) {
                return NO;
            }
            return ahead(bag[s], bag[o], bag[3 - s - o]).part(p);
        }

        long orders() {
            BigInteger n = BigInteger.ONE;
            for (int i = 2; i <= rest(); i++) {
                n = n.multiply(BigInteger.valueOf(i));
            }
            for (int have : bag) {
                for (int i = 2; i <= have; i++) {
                    n = n.divide(BigInteger.valueOf(i));
                }
            }
            return n.longValueExact();
        }

        long mean(int w, int what, int p) {
            if (!hand(w) || what < 0 || what > 2 || !part(p)) {
                return NO;
            }
            int[] one = workers.get(w);
            if (what == 2) {
                return value(BEST, 0).less(value(one, 0)).part(p);
            }
            return value(one, what == 0 ? 0 : 7).part(p);
        }

        int today(int s) {
            if (!sort(s)) {
                return -1;
            }
            return bag[s] == 0 ? -3 : wouldDo(BEST, s);
        }

        int whatever() {
            int bits = 0;
            for (int k = 0; k < 3; k++) {
                if (value(new int[] {7, k}, 1 << k).compareTo(Part.ONE) == 0) {
                    bits |= 1 << k;
                }
            }
            return bits;
        }

        final Map<String, Integer> tops = new HashMap<>();

        int most() {
            tops.clear();
            return top();
        }

        int top() {
            String key = Arrays.toString(bag) + Arrays.toString(stage);
            Integer known = tops.get(key);
            if (known != null) {
                return known;
            }
            int top = 0;
            for (int s = 0; s < 3; s++) {
                if (bag[s] == 0) {
                    continue;
                }
                bag[s]--;
                for (int k = -1; k < 3; k++) {
                    if (k < 0 || can(k, stage[k], s, rest(), bag[s], day)) {
                        int paid = doWork(k);
                        day++;
                        top = Math.max(top, paid + top());
                        day--;
                        undoWork(k);
                    }
                }
                bag[s]++;
            }
            tops.put(key, top);
            return top;
        }

        long put(int s, int p) {
            if (!sort(s) || !part(p) || bag[s] == 5) {
                return NO;
            }
            Part now = value(BEST, 0);
            bag[s]++;
            Part then = value(BEST, 0);
            bag[s]--;
            return then.less(now).part(p);
        }

        long pass(int s, int p) {
            if (!sort(s) || !part(p) || bag[s] == 0) {
                return NO;
            }
            return value(BEST, 0).less(valueOf(BEST, 0, s)).part(p);
        }

        long cover(int s, int n, int p) {
            if (!sort(s) || !part(p) || n < 1 || n > 15) {
                return NO;
            }
            Part odds = atLeast(bag[s], rest(), Math.min(n, rest()), 1);
            return odds.times(Part.of(told(0), 1)).part(p);
        }

        long right(int s, int p) {
            if (!sort(s) || !part(p) || bag[s] == 0) {
                return NO;
            }
            Part now = value(BEST, 0);
            barred = s;
            barredLeft = bag[s] - 1;
            Part then = value(BEST, 0);
            barred = -1;
            barredLeft = -1;
            return now.less(then).part(p);
        }

        int book(int s) {
            if (s == -1) {
                book.clear();
                return 0;
            }
            if (!sort(s)) {
                return -1;
            }
            if (book.size() == 12) {
                return -4;
            }
            book.add(s);
            return book.size();
        }

        Part likelyFrom(int[] days) {
            int[] left = days.clone();
            Part odds = Part.ONE;
            for (int s : book) {
                int rest = left[0] + left[1] + left[2];
                if (left[s] == 0) {
                    return Part.ZERO;
                }
                odds = odds.times(Part.of(left[s], rest));
                left[s]--;
            }
            return odds;
        }

        long likely(int p) {
            return part(p) ? likelyFrom(bag).part(p) : NO;
        }

        int judged(int w, int what) {
            if (!hand(w) || what < 0 || what > 1) {
                return -1;
            }
            Model was = new Model();
            was.takeOver(this);
            int come = 0;
            int paid = 0;
            for (int s : book) {
                if (bag[s] == 0) {
                    break;
                }
                bag[s]--;
                paid += doWork(does(workers.get(w), s));
                day++;
                come++;
            }
            bag = was.bag;
            stage = was.stage;
            day = was.day;
            return what == 0 ? come : paid;
        }

        int other(int s, int n) {
            if (!sort(s)) {
                return -1;
            }
            if (n < 0 || n > 5) {
                return -2;
            }
            int had = second[s];
            second[s] = n;
            return had;
        }

        int same() {
            int way = likelyFrom(bag).compareTo(likelyFrom(second));
            return way > 0 ? 1 : way < 0 ? 2 : 0;
        }

        static final int[] ABOVE = {-1, 0, 0, 0, 1, 2, 3};
        /** The body's number by kind and act; 0: there is none. */
        static final int[][] BODIES = {{1, 2, 3}, {11, 0, 0}, {0, 21, 0}, {0, 0, 31}, {0, 0, 41}, {51, 0, 0},
            {0, 61, 0}};

        int act(int w, int act, int x) {
            trace.clear();
            return hand(w) && act >= 0 && act <= 2 ? body(w, workers.get(w)[0], act, x) : 0;
        }

        int body(int i, int kind, int act, int x) {
            int k = kind;
            while (BODIES[k][act] == 0) {
                k = ABOVE[k];
            }
            int own = workers.get(i)[0];
            int v = workers.get(i)[1];
            int up = ABOVE[k];
            trace.add(BODIES[k][act]);
            switch (BODIES[k][act]) {
                case 1:
                    return x + i;
                case 2:
                    return body(i, own, 0, x) - v;
                case 3:
                    return body(i, own, 1, x) * 2;
                case 11:
                    return body(i, up, 0, x * 3);
                case 21:
                    return -body(i, up, 1, x);
                case 31:
                    return body(i, up, 2, x) ^ 7;
                case 41: {
                    int left = body(i, up, 2, x - 1);
                    return left + body(i, own, 0, 2);
                }
                case 51:
                    return body(i, up, 0, x) ^ i;
                default:
                    return body(i, up, 1, x) + v;
            }
        }

        int trace(int i) {
            return i >= 0 && i < trace.size() && i < 20 ? trace.get(i) : -1;
        }

        int as(int w, int k) {
            if (!hand(w) || k < 0 || k > 6) {
                return -1;
            }
            for (int kind = workers.get(w)[0]; kind >= 0; kind = ABOVE[kind]) {
                if (kind == k) {
                    return workers.get(w)[1];
                }
            }
            return -6;
        }

        int image() {
            kept = new Model();
            kept.takeOver(this);
            return workers.size();
        }

        int undo() {
            if (kept == null) {
                return -3;
            }
            takeOver(kept);
            conditions.clear();
            return workers.size();
        }

        int count(int what) {
            switch (what) {
                case 0:
                    return workers.size();
                case 1:
                    return valleys;
                case 2:
                    return book.size();
                case 3:
                    return tape.length();
                case 4:
                    return trace.size();
                default:
                    return -1;
            }
        }
    }
}
