import java.util.Arrays;

/** Days drawn from a bag, works that go on by them, and workers who choose among these. */
public final class DaysBag {
    public static final int NONE = -1, BAD = -2, STATE = -3, FULL = -4;
    public static final long NO = Long.MIN_VALUE;

    private static final int SORTS = 3, WORKS = 3, KINDS = 7, ACTS = 3;
    private static final int MOST_DAYS = 5, MOST_REST = 15, LAST_DAY = 99;
    private static final int MOST_SIGNS = 100, MOST_CLAUSES = 10, MOST_OPEN = 5, MOST_VALLEYS = 5;
    private static final int MOST_WORKERS = 8, MOST_V = 9, MOST_BOOK = 12, MOST_TRACE = 20;
    private static final int DONE = 2, TOLD_KIND = 6;
    /** The work of one who does none, as a ROW tells it; the face says NO_WORK. */
    private static final int IDLE = 3, NO_WORK = -5;
    private static final int OTHER_KIND = -6;
    private static final int NOT_DRAWN_NONE = -1001, NOT_DRAWN_STATE = -1002;
    private static final int FAULT = -10;

    /** The stages of all works are one number of three digits to the base 3. */
    private static final int[] STEP = {1, 3, 9};
    private static final int STAGES = 27, ALL_WORKS = 7;
    /** For each number of stages: a bit for each work that is not done, at twice the work and its stage. */
    private static final int[] UNDONE = {
        21, 22, 20, 25, 26, 24, 17, 18, 16,
        37, 38, 36, 41, 42, 40, 33, 34, 32,
        5, 6, 4, 9, 10, 8, 1, 2, 0
    };
    private static final int COUNTS = MOST_DAYS + 1, STATES = COUNTS * COUNTS * COUNTS * STAGES;

    /** Pascal's triangle, row by row. */
    private static final int[] PASCAL = {
        1,
        1, 1,
        1, 2, 1,
        1, 3, 3, 1,
        1, 4, 6, 4, 1,
        1, 5, 10, 10, 5, 1,
        1, 6, 15, 20, 15, 6, 1,
        1, 7, 21, 35, 35, 21, 7, 1,
        1, 8, 28, 56, 70, 56, 28, 8, 1,
        1, 9, 36, 84, 126, 126, 84, 36, 9, 1,
        1, 10, 45, 120, 210, 252, 210, 120, 45, 10, 1,
        1, 11, 55, 165, 330, 462, 462, 330, 165, 55, 11, 1,
        1, 12, 66, 220, 495, 792, 924, 792, 495, 220, 66, 12, 1,
        1, 13, 78, 286, 715, 1287, 1716, 1716, 1287, 715, 286, 78, 13, 1,
        1, 14, 91, 364, 1001, 2002, 3003, 3432, 3003, 2002, 1001, 364, 91, 14, 1,
        1, 15, 105, 455, 1365, 3003, 5005, 6435, 6435, 5005, 3003, 1365, 455, 105, 15, 1
    };

    private final Season now;
    private final Season kept;
    private boolean imaged;
    private final Reader reader;
    /** What lies ahead as it is, and as it would be; two, so that neither forgets what it worked out. */
    private final Ahead ahead;
    private final Ahead would;
    /** At 0 how many bodies ran, behind it those that are kept. */
    private final int[] ran;

    public DaysBag() {
        int[] none = new int[0];
        Valley bare = new Valley(none, none, none, new int[] {1, 1, 1}, 0);
        int[] scratch = new int[STATES];
        now = new Season(bare);
        kept = new Season(bare);
        reader = new Reader();
        ahead = new Ahead(bare, scratch);
        would = new Ahead(bare, scratch);
        ran = new int[MOST_TRACE + 1];
    }

    // ---- bags, valleys

    public int bag(int sort, int n) {
        return changed(now.bag, sort, n);
    }

    public int feed(int sign) {
        if (sign < 0 || sign > 127) {
            return BAD;
        }
        if (now.signs >= MOST_SIGNS) {
            return FULL;
        }
        now.tape[now.signs] = sign;
        now.signs++;
        return now.signs;
    }

    public int valley() {
        if (now.valleys >= MOST_VALLEYS) {
            return FULL;
        }
        int fault = reader.fault(now.tape, now.signs);
        now.signs = 0;
        if (fault >= 0) {
            return FAULT - fault;
        }
        now.held = reader.made();
        now.valleys++;
        return now.valleys - 1;
    }

    public int told(int what) {
        if (what == 0) {
            return now.held.cover;
        }
        if (what == 1) {
            return now.day;
        }
        if (what == 2) {
            return restOf(now.bag);
        }
        if (what >= 10 && what < 10 + WORKS) {
            return now.held.pay[what - 10];
        }
        if (what >= 20 && what < 20 + WORKS) {
            return stageOf(now.stages, what - 20);
        }
        if (what >= 30 && what < 30 + SORTS) {
            return now.bag[what - 30];
        }
        return NONE;
    }

    public int stage(int work, int n) {
        if (work < 0 || work >= WORKS) {
            return NONE;
        }
        if (n < 0 || n > DONE) {
            return BAD;
        }
        int was = stageOf(now.stages, work);
        now.stages += (n - was) * STEP[work];
        return was;
    }

    // ---- workers, days

    public int worker(int kind, int v) {
        if (kind < 0 || kind >= KINDS) {
            return NONE;
        }
        if (v < 0 || v > MOST_V) {
            return BAD;
        }
        if (now.hands >= MOST_WORKERS) {
            return FULL;
        }
        now.workers[now.hands] = hired(kind, now.hands, v);
        now.hands++;
        return now.hands - 1;
    }

    public int row(int worker, int sort, int n) {
        Worker one = workerAt(worker);
        if (one == null || !isSort(sort)) {
            return NONE;
        }
        if (n < 0 || n > IDLE) {
            return BAD;
        }
        if (one instanceof Told teller) {
            now.workers[worker] = teller.telling(sort, n);
            return teller.toldFor(sort);
        }
        return STATE;
    }

    public int of(int worker, int what) {
        Worker one = workerAt(worker);
        if (one == null) {
            return NONE;
        }
        if (what == 0) {
            return one.kind;
        }
        if (what == 1) {
            return one.v;
        }
        if (!isSort(what - 10)) {
            return NONE;
        }
        return now.bag[what - 10] == 0 ? NO_WORK : workName(workNow(one, what - 10));
    }

    public int draw(int worker, int sort) {
        Worker one = workerAt(worker);
        if (one == null || !isSort(sort)) {
            return NOT_DRAWN_NONE;
        }
        if (now.bag[sort] == 0 || now.day >= LAST_DAY) {
            return NOT_DRAWN_STATE;
        }
        int work = workNow(one, sort);
        int paid = now.held.gain(work, now.stages);
        now.stages = after(work, now.stages);
        now.bag[sort]--;
        now.day++;
        return paid;
    }

    // ---- odds

    public long next(int sort, int part) {
        if (!isSort(sort) || !isPart(part)) {
            return NO;
        }
        return lowest(now.bag[sort], Math.max(1, restOf(now.bag)), part);
    }

    public long run(int sort, int n, int part) {
        if (!isSort(sort) || !isPart(part) || n < 1 || n > MOST_DAYS) {
            return NO;
        }
        int rest = restOf(now.bag);
        return lowest(choose(now.bag[sort], n), Math.max(1, choose(rest, n)), part);
    }

    public long by(int sort, int n, int m, int part) {
        if (!isSort(sort) || !isPart(part) || n < 1 || n > MOST_REST || m < 0 || m > MOST_DAYS) {
            return NO;
        }
        int rest = restOf(now.bag);
        if (n > rest) {
            return NO;
        }
        int days = now.bag[sort];
        long ways = 0;
        for (int i = m; i <= days; i++) {
            ways += (long) choose(days, i) * choose(rest - days, n - i);
        }
        return lowest(ways, choose(rest, n), part);
    }

    public long first(int sort, int part) {
        if (!isSort(sort) || !isPart(part) || now.bag[sort] == 0) {
            return NO;
        }
        return lowest(restOf(now.bag) + 1, now.bag[sort] + 1, part);
    }

    public long before(int sort, int other, int part) {
        if (!isSort(sort) || !isSort(other) || !isPart(part) || sort == other) {
            return NO;
        }
        int both = now.bag[sort] + now.bag[other];
        return both == 0 ? NO : lowest(now.bag[sort], both, part);
    }

    public long orders() {
        return ordersOf(now.bag);
    }

    // ---- what to do

    public long mean(int worker, int what, int part) {
        Worker one = workerAt(worker);
        if (one == null || what < 0 || what > 2 || !isPart(part)) {
            return NO;
        }
        ahead.look(now, NONE, NONE);
        ahead.forget();
        long sum = ahead.ownSum(one, what == 1 ? ALL_WORKS : 0, now.stages);
        if (what == 2) {
            sum = ahead.bestSum(now.stages) - sum;
        }
        return lowest(sum, ordersOf(now.bag), part);
    }

    public int today(int sort) {
        if (!isSort(sort)) {
            return NONE;
        }
        if (now.bag[sort] == 0) {
            return STATE;
        }
        ahead.look(now, NONE, NONE);
        ahead.take(sort);
        return workName(ahead.bestWork(sort, now.stages));
    }

    public int whatever() {
        ahead.look(now, NONE, NONE);
        int sure = 0;
        for (int work = 0; work < WORKS; work++) {
            ahead.forget();
            int reaching = ahead.ownSum(lonely(work), 1 << work, now.stages);
            if (reaching == ordersOf(now.bag)) {
                sure |= 1 << work;
            }
        }
        return sure;
    }

    public int most() {
        ahead.look(now, NONE, NONE);
        ahead.forget();
        return ahead.mostPaid(now.stages);
    }

    public long put(int sort, int part) {
        if (!isSort(sort) || !isPart(part) || now.bag[sort] >= MOST_DAYS) {
            return NO;
        }
        ahead.look(now, NONE, NONE);
        would.look(now, sort, NONE);
        long orders = ordersOf(now.bag);
        long more = would.ways();
        long above = would.bestSum(now.stages) * orders - ahead.bestSum(now.stages) * more;
        return lowest(above, orders * more, part);
    }

    public long pass(int sort, int part) {
        if (!isSort(sort) || !isPart(part) || now.bag[sort] == 0) {
            return NO;
        }
        ahead.look(now, NONE, NONE);
        long sum = ahead.bestSum(now.stages);
        ahead.take(sort);
        long then = ahead.bestOn(sort, now.stages);
        long orders = ordersOf(now.bag);
        long behind = ahead.ways();
        return lowest(sum * behind - then * orders, orders * behind, part);
    }

    public long cover(int sort, int n, int part) {
        if (!isSort(sort) || !isPart(part) || n < 1 || n > MOST_REST) {
            return NO;
        }
        int rest = restOf(now.bag);
        int days = Math.min(n, rest);
        long all = choose(rest, days);
        long without = choose(rest - now.bag[sort], days);
        return lowest(now.held.cover * (all - without), all, part);
    }

    public long right(int sort, int part) {
        if (!isSort(sort) || !isPart(part) || now.bag[sort] == 0) {
            return NO;
        }
        ahead.look(now, NONE, NONE);
        would.look(now, NONE, sort);
        long lost = (long) ahead.bestSum(now.stages) - would.bestSum(now.stages);
        return lowest(lost, ordersOf(now.bag), part);
    }

    // ---- books

    public int book(int sort) {
        if (sort == -1) {
            now.pages = 0;
            return 0;
        }
        if (!isSort(sort)) {
            return NONE;
        }
        if (now.pages >= MOST_BOOK) {
            return FULL;
        }
        now.book[now.pages] = sort;
        now.pages++;
        return now.pages;
    }

    public long likely(int part) {
        if (!isPart(part)) {
            return NO;
        }
        return lowest(ordersByBook(now.bag), ordersOf(now.bag), part);
    }

    public int judged(int worker, int what) {
        Worker one = workerAt(worker);
        if (one == null || what < 0 || what > 1) {
            return NONE;
        }
        ahead.look(now, NONE, NONE);
        int come = 0;
        int paid = 0;
        int stages = now.stages;
        for (int i = 0; i < now.pages && ahead.has(now.book[i]); i++) {
            ahead.take(now.book[i]);
            int work = one.does(ahead, now.book[i], stages);
            paid += now.held.gain(work, stages);
            stages = after(work, stages);
            come++;
        }
        return what == 0 ? come : paid;
    }

    public int other(int sort, int n) {
        return changed(now.second, sort, n);
    }

    public int same() {
        long here = (long) ordersByBook(now.bag) * ordersOf(now.second);
        long there = (long) ordersByBook(now.second) * ordersOf(now.bag);
        if (here == there) {
            return 0;
        }
        return here > there ? 1 : 2;
    }

    // ---- acts, the image

    public int act(int worker, int act, int x) {
        ran[0] = 0;
        Worker one = workerAt(worker);
        if (one == null || act < 0 || act >= ACTS) {
            return 0;
        }
        if (act == 0) {
            return one.sows(x, ran);
        }
        return act == 1 ? one.cuts(x, ran) : one.tells(x, ran);
    }

    public int trace(int i) {
        if (i < 0 || i >= MOST_TRACE || i >= ran[0]) {
            return NONE;
        }
        return ran[i + 1];
    }

    public int as(int worker, int k) {
        Worker one = workerAt(worker);
        if (one == null || k < 0 || k >= KINDS) {
            return NONE;
        }
        return isOf(one, k) ? one.v : OTHER_KIND;
    }

    public int image() {
        kept.copy(now);
        imaged = true;
        return now.hands;
    }

    public int undo() {
        if (!imaged) {
            return STATE;
        }
        now.copy(kept);
        return now.hands;
    }

    public int count(int what) {
        switch (what) {
            case 0:
                return now.hands;
            case 1:
                return now.valleys;
            case 2:
                return now.pages;
            case 3:
                return now.signs;
            case 4:
                return ran[0];
            default:
                return NONE;
        }
    }

    // ---- within

    private static boolean isSort(int sort) {
        return sort >= 0 && sort < SORTS;
    }

    private static boolean isPart(int part) {
        return part == 0 || part == 1;
    }

    private static int workName(int work) {
        return work == IDLE ? NO_WORK : work;
    }

    private static int changed(int[] days, int sort, int n) {
        if (!isSort(sort)) {
            return NONE;
        }
        if (n < 0 || n > MOST_DAYS) {
            return BAD;
        }
        int had = days[sort];
        days[sort] = n;
        return had;
    }

    private static int restOf(int[] days) {
        int rest = 0;
        for (int sort = 0; sort < SORTS; sort++) {
            rest += days[sort];
        }
        return rest;
    }

    private static boolean hasBit(int bits, int place) {
        return (bits >> place & 1) == 1;
    }

    private static boolean isIn(int cans, int work) {
        return (cans >> work * DONE & 3) != 0;
    }

    private static int stageOf(int stages, int work) {
        return stages / STEP[work] % 3;
    }

    private static int after(int work, int stages) {
        return work >= 0 && work < WORKS ? stages + STEP[work] : stages;
    }

    private static int choose(int n, int k) {
        if (k < 0 || k > n || n > MOST_REST) {
            return 0;
        }
        return PASCAL[n * (n + 1) / 2 + k];
    }

    private static int ordersOf(int[] days) {
        int rest = restOf(days);
        return choose(rest, days[0]) * choose(rest - days[0], days[1]);
    }

    /** Every order is as likely as another one, so odds are orders by orders. */
    private static long lowest(long above, long below, int part) {
        long common = commonOf(Math.abs(above), below);
        if (common == 0) {
            return NO;
        }
        return (part == 0 ? above : below) / common;
    }

    private static long commonOf(long a, long b) {
        for (int i = 0; i < 200 && b != 0; i++) {
            long over = a % b;
            a = b;
            b = over;
        }
        return a;
    }

    private Worker workerAt(int worker) {
        return worker >= 0 && worker < now.hands ? now.workers[worker] : null;
    }

    private int workNow(Worker one, int sort) {
        ahead.look(now, NONE, NONE);
        ahead.take(sort);
        return one.does(ahead, sort, now.stages);
    }

    /** How many orders of a bag begin as the BOOK does. */
    private int ordersByBook(int[] days) {
        int[] left = days.clone();
        for (int i = 0; i < now.pages; i++) {
            int sort = now.book[i];
            if (left[sort] == 0) {
                return 0;
            }
            left[sort]--;
        }
        return ordersOf(left);
    }

    private static Worker hired(int kind, int number, int v) {
        switch (kind) {
            case 1:
                return new Plain(kind, number, v);
            case 2:
                return new Left(kind, number, v);
            case 3:
                return new Waiting(kind, number, v);
            case 4:
                return new Sure(kind, number, v);
            case 5:
                return new Best(kind, number, v);
            case TOLD_KIND:
                return new Told(number, v, Told.NOTHING_TOLD);
            default:
                return new Worker(kind, number, v);
        }
    }

    /** One who does this work alone: told it for every sort, and waiting for a rest that never is. */
    private static Worker lonely(int work) {
        return new Told(0, -1, work | work << 2 | work << 4);
    }

    private static boolean isOf(Worker one, int kind) {
        switch (kind) {
            case 1:
                return one instanceof Plain;
            case 2:
                return one instanceof Left;
            case 3:
                return one instanceof Waiting;
            case 4:
                return one instanceof Sure;
            case 5:
                return one instanceof Best;
            case TOLD_KIND:
                return one instanceof Told;
            default:
                return true;
        }
    }

    /** All that THE IMAGE keeps. Valleys and workers never change, so these are kept as they are. */
    private static final class Season {
        final int[] bag = new int[SORTS];
        final int[] second = new int[SORTS];
        int day;
        int stages;
        final int[] tape = new int[MOST_SIGNS];
        int signs;
        Valley held;
        int valleys;
        final Worker[] workers = new Worker[MOST_WORKERS];
        int hands;
        final int[] book = new int[MOST_BOOK];
        int pages;

        Season(Valley bare) {
            held = bare;
        }

        void copy(Season from) {
            System.arraycopy(from.bag, 0, bag, 0, SORTS);
            System.arraycopy(from.second, 0, second, 0, SORTS);
            System.arraycopy(from.tape, 0, tape, 0, MOST_SIGNS);
            System.arraycopy(from.book, 0, book, 0, MOST_BOOK);
            for (int i = 0; i < MOST_WORKERS; i++) {
                workers[i] = from.workers[i];
            }
            day = from.day;
            stages = from.stages;
            signs = from.signs;
            held = from.held;
            valleys = from.valleys;
            hands = from.hands;
            pages = from.pages;
        }
    }

    /** What a text told: when works can be done, as conditions with the operators behind, and what is paid. */
    private static final class Valley {
        static final int NOT = -1, AND = -2, OR = -3;
        private final int[] code;
        private final int[] works;
        private final int[] ends;
        final int[] pay;
        final int cover;

        Valley(int[] code, int[] works, int[] ends, int[] pay, int cover) {
            this.code = code;
            this.works = works;
            this.ends = ends;
            this.pay = pay;
            this.cover = cover;
        }

        int gain(int work, int stages) {
            if (work < 0 || work >= WORKS) {
                return 0;
            }
            return hasBit(UNDONE[stages], work * DONE + 1) ? pay[work] : 0;
        }

        /** Day: s, g, l, r, d in this order; a bit for each work and each g in which it is not done. */
        int opened(int[] day) {
            int bits = 0;
            int from = 0;
            for (int i = 0; i < works.length; i++) {
                for (int stage = 0; stage < DONE; stage++) {
                    day[1] = stage;
                    if (holds(from, ends[i], day)) {
                        bits |= 1 << (works[i] * DONE + stage);
                    }
                }
                from = ends[i];
            }
            return bits;
        }

        /** The bits of one int are the stack: with 5 open at most no text needs more than 13. */
        private boolean holds(int from, int end, int[] day) {
            int stack = 0;
            for (int i = from; i < end; i++) {
                int op = code[i];
                int top = stack & 1;
                if (op == NOT) {
                    stack ^= 1;
                } else if (op == AND) {
                    stack = (stack >> 1) & (top - 2);
                } else if (op == OR) {
                    stack = (stack >> 1) | top;
                } else {
                    int is = day[op / 300];
                    int n = op % 100;
                    int relation = is < n ? 0 : is == n ? 1 : 2;
                    stack = (stack << 1) | (relation == op / 100 % 3 ? 1 : 0);
                }
            }
            return (stack & 1) == 1;
        }

        /** A TEST as one number, as holds() takes it apart. */
        static int test(int sign, int relation, int n) {
            return (sign * 3 + relation) * 100 + n;
        }
    }

    /** Reads a tape as a valley; where it stops, no valley can go on. */
    private static final class Reader {
        private int[] tape = new int[0];
        private int size;
        private int at;
        private final int[] code = new int[MOST_SIGNS];
        private int length;
        private final int[] works = new int[MOST_CLAUSES];
        private final int[] ends = new int[MOST_CLAUSES];
        private int cans;
        private final int[] pay = new int[WORKS];
        private int cover;

        /** The FAULT, or -1. */
        int fault(int[] signs, int many) {
            tape = signs;
            size = many;
            at = 0;
            length = 0;
            cans = 0;
            Arrays.fill(pay, 1);
            cover = 0;
            for (int i = 1; i <= MOST_CLAUSES; i++) {
                if (!clause()) {
                    return at;
                }
                if (at >= size) {
                    return -1;
                }
                if (i == MOST_CLAUSES || !eats(';')) {
                    return at;
                }
            }
            return at;
        }

        Valley made() {
            return new Valley(Arrays.copyOf(code, length), Arrays.copyOf(works, cans),
                Arrays.copyOf(ends, cans), pay.clone(), cover);
        }

        private boolean sees(char sign) {
            return at < size && tape[at] == sign;
        }

        private boolean eats(char sign) {
            if (!sees(sign)) {
                return false;
            }
            at++;
            return true;
        }

        private boolean eatsAll(String word) {
            for (int i = 0; i < word.length(); i++) {
                if (!eats(word.charAt(i))) {
                    return false;
                }
            }
            return true;
        }

        /** Which of these signs comes; -1, and nothing is eaten: none. */
        private int eatsOneOf(String signs) {
            if (at >= size) {
                return -1;
            }
            int which = signs.indexOf((char) tape[at]);
            if (which >= 0) {
                at++;
            }
            return which;
        }

        private int digit() {
            if (at >= size || tape[at] < '0' || tape[at] > '9') {
                return -1;
            }
            at++;
            return tape[at - 1] - '0';
        }

        private int number() {
            int high = digit();
            if (high <= 0) {
                return high;
            }
            int low = digit();
            return low < 0 ? high : high * 10 + low;
        }

        private boolean clause() {
            if (sees('p')) {
                return payClause();
            }
            if (!eats('c')) {
                return false;
            }
            return sees('a') ? canClause() : coverClause();
        }

        private boolean payClause() {
            if (!eatsAll("pay ")) {
                return false;
            }
            int work = eatsOneOf("012");
            if (work < 0 || !eats(' ')) {
                return false;
            }
            int n = number();
            if (n < 0) {
                return false;
            }
            pay[work] = n;
            return true;
        }

        private boolean coverClause() {
            if (!eatsAll("over ")) {
                return false;
            }
            int n = number();
            if (n < 0) {
                return false;
            }
            cover = n;
            return true;
        }

        private boolean canClause() {
            if (!eatsAll("an ")) {
                return false;
            }
            int work = eatsOneOf("012");
            if (work < 0 || !eats(' ') || !either(0)) {
                return false;
            }
            works[cans] = work;
            ends[cans] = length;
            cans++;
            return true;
        }

        private boolean either(int open) {
            if (!both(open)) {
                return false;
            }
            for (int i = 0; i < MOST_SIGNS && eats('|'); i++) {
                if (!both(open)) {
                    return false;
                }
                emit(Valley.OR);
            }
            return true;
        }

        private boolean both(int open) {
            if (!factor(open)) {
                return false;
            }
            for (int i = 0; i < MOST_SIGNS && eats('&'); i++) {
                if (!factor(open)) {
                    return false;
                }
                emit(Valley.AND);
            }
            return true;
        }

        private boolean factor(int open) {
            boolean opens = sees('!') || sees('(');
            if (!opens) {
                return testing();
            }
            if (open >= MOST_OPEN) {
                return false;
            }
            if (eats('(')) {
                return either(open + 1) && eats(')');
            }
            at++;
            if (!factor(open + 1)) {
                return false;
            }
            emit(Valley.NOT);
            return true;
        }

        private boolean testing() {
            int sign = eatsOneOf("sglrd");
            if (sign < 0) {
                return false;
            }
            int relation = eatsOneOf("<=>");
            if (relation < 0) {
                return false;
            }
            int n = number();
            if (n < 0) {
                return false;
            }
            emit(Valley.test(sign, relation, n));
            return true;
        }

        private void emit(int op) {
            if (length < code.length) {
                code[length] = op;
                length++;
            }
        }
    }

    /** The days that are left, drawn one by one and put back, and what comes of these over all orders. */
    private static final class Ahead {
        private static final int UNKNOWN = -1;
        private final int[] left = new int[SORTS];
        int rest;
        /** The days that were drawn and the rest: no draw changes it, so what was worked out outlasts draws. */
        private int total = -1;
        private Valley valley;
        private int barred = NONE;
        /** How many days of the barred sort are left on its first day: fewer on any other one. */
        private int barredAt;
        /** By the rest, the sort and its days that are left: when which works open. */
        private final int[] opened = new int[MOST_REST * SORTS * COUNTS];
        private final int[] day = new int[5];
        private final int[] best = new int[STATES];
        private final int[] own;

        Ahead(Valley bare, int[] scratch) {
            valley = bare;
            own = scratch;
        }

        /** More: a sort with one more day; bar: a sort on whose first day nothing can be done; NONE: none. */
        void look(Season season, int more, int bar) {
            for (int sort = 0; sort < SORTS; sort++) {
                left[sort] = season.bag[sort] + (sort == more ? 1 : 0);
            }
            rest = restOf(left);
            int days = season.day + rest;
            int at = bar >= 0 && bar < SORTS ? left[bar] - 1 : 0;
            if (season.held == valley && days == total && bar == barred && at == barredAt) {
                return;
            }
            valley = season.held;
            total = days;
            barred = bar;
            barredAt = at;
            Arrays.fill(opened, UNKNOWN);
            Arrays.fill(best, UNKNOWN);
        }

        boolean has(int sort) {
            return left[sort] > 0;
        }

        void take(int sort) {
            left[sort]--;
            rest--;
        }

        private void back(int sort) {
            left[sort]++;
            rest++;
        }

        int ways() {
            return choose(rest, left[0]) * choose(rest - left[0], left[1]);
        }

        int payOf(int work) {
            return valley.pay[work];
        }

        private int place(int stages) {
            return ((left[0] * COUNTS + left[1]) * COUNTS + left[2]) * STAGES + stages;
        }

        /** The works that can be done on a day of a sort that was taken, as bits like UNDONE's. */
        int cans(int sort, int stages) {
            if (sort == barred && left[sort] == barredAt) {
                return 0;
            }
            int at = (rest * SORTS + sort) * COUNTS + left[sort];
            if (opened[at] == UNKNOWN) {
                day[0] = sort;
                day[2] = rest;
                day[3] = left[sort];
                day[4] = total - 1 - rest;
                opened[at] = valley.opened(day);
            }
            return opened[at] & UNDONE[stages];
        }

        /** Over all orders of what is left together, so that it is exact: what a BEST one is paid. */
        private int bestSum(int stages) {
            if (rest <= 0) {
                return 0;
            }
            int at = place(stages);
            if (best[at] != UNKNOWN) {
                return best[at];
            }
            int sum = 0;
            for (int sort = 0; sort < SORTS; sort++) {
                if (left[sort] > 0) {
                    take(sort);
                    sum += bestOn(sort, stages);
                    back(sort);
                }
            }
            best[at] = sum;
            return sum;
        }

        /** Over all orders behind the day that was taken: what a BEST one is paid on it and on these. */
        private int bestOn(int sort, int stages) {
            int bits = cans(sort, stages);
            int most = bestSum(stages);
            for (int work = 0; work < WORKS; work++) {
                if (isIn(bits, work)) {
                    most = Math.max(most, worth(work, stages));
                }
            }
            return most;
        }

        private int bestWork(int sort, int stages) {
            int bits = cans(sort, stages);
            int most = bestOn(sort, stages);
            if (bits == 0 || bestSum(stages) == most) {
                return IDLE;
            }
            for (int work = 0; work < WORKS; work++) {
                if (isIn(bits, work) && worth(work, stages) == most) {
                    return work;
                }
            }
            return IDLE;
        }

        private int worth(int work, int stages) {
            return paidOn(work, stages) + bestSum(after(work, stages));
        }

        private int paidOn(int work, int stages) {
            int gain = valley.gain(work, stages);
            return gain == 0 ? 0 : gain * ways();
        }

        /** Ahead of ownSum and mostPaid, which share a row. */
        void forget() {
            Arrays.fill(own, UNKNOWN);
        }

        /** How many orders end with these works done; without works: what is paid over all orders. */
        private int ownSum(Worker one, int works, int stages) {
            if (rest <= 0) {
                return works != 0 && reached(works, stages) ? 1 : 0;
            }
            int at = place(stages);
            if (own[at] != UNKNOWN) {
                return own[at];
            }
            int sum = 0;
            for (int sort = 0; sort < SORTS; sort++) {
                if (left[sort] > 0) {
                    take(sort);
                    int work = one.does(this, sort, stages);
                    int paid = works == 0 ? paidOn(work, stages) : 0;
                    sum += paid + ownSum(one, works, after(work, stages));
                    back(sort);
                }
            }
            own[at] = sum;
            return sum;
        }

        private static boolean reached(int works, int stages) {
            for (int work = 0; work < WORKS; work++) {
                if (hasBit(works, work) && isIn(UNDONE[stages], work)) {
                    return false;
                }
            }
            return true;
        }

        private int mostPaid(int stages) {
            if (rest <= 0) {
                return 0;
            }
            int at = place(stages);
            if (own[at] != UNKNOWN) {
                return own[at];
            }
            int top = 0;
            for (int sort = 0; sort < SORTS; sort++) {
                if (left[sort] > 0) {
                    take(sort);
                    top = Math.max(top, mostOn(sort, stages));
                    back(sort);
                }
            }
            own[at] = top;
            return top;
        }

        private int mostOn(int sort, int stages) {
            int bits = cans(sort, stages);
            int top = mostPaid(stages);
            for (int work = 0; work < WORKS; work++) {
                if (isIn(bits, work)) {
                    top = Math.max(top, valley.gain(work, stages) + mostPaid(after(work, stages)));
                }
            }
            return top;
        }
    }

    /** A worker never changes: another row is another worker in the same place. */
    private static class Worker {
        final int kind;
        final int number;
        final int v;

        Worker(int kind, int number, int v) {
            this.kind = kind;
            this.number = number;
            this.v = v;
        }

        /** The work on a day of a sort that was taken, or IDLE. */
        int does(Ahead ahead, int sort, int stages) {
            return IDLE;
        }

        int sows(int x, int[] ran) {
            began(1, ran);
            return x + number;
        }

        int cuts(int x, int[] ran) {
            began(2, ran);
            return sows(x, ran) - v;
        }

        int tells(int x, int[] ran) {
            began(3, ran);
            return cuts(x, ran) * 2;
        }

        static void began(int body, int[] ran) {
            ran[0]++;
            if (ran[0] < ran.length) {
                ran[ran[0]] = body;
            }
        }

        static int least(int cans) {
            for (int work = 0; work < WORKS; work++) {
                if (isIn(cans, work)) {
                    return work;
                }
            }
            return IDLE;
        }
    }

    private static class Plain extends Worker {
        Plain(int kind, int number, int v) {
            super(kind, number, v);
        }

        int does(Ahead ahead, int sort, int stages) {
            return least(ahead.cans(sort, stages));
        }

        int sows(int x, int[] ran) {
            began(11, ran);
            return super.sows(x * 3, ran);
        }
    }

    private static class Left extends Worker {
        Left(int kind, int number, int v) {
            super(kind, number, v);
        }

        int does(Ahead ahead, int sort, int stages) {
            int bits = ahead.cans(sort, stages);
            int pick = IDLE;
            for (int work = 0; work < WORKS; work++) {
                if (isIn(bits, work) && (pick == IDLE || ahead.payOf(work) > ahead.payOf(pick))) {
                    pick = work;
                }
            }
            return pick;
        }

        int cuts(int x, int[] ran) {
            began(21, ran);
            return -super.cuts(x, ran);
        }
    }

    private static class Waiting extends Worker {
        Waiting(int kind, int number, int v) {
            super(kind, number, v);
        }

        int does(Ahead ahead, int sort, int stages) {
            return ahead.rest <= v ? least(ahead.cans(sort, stages)) : IDLE;
        }

        int tells(int x, int[] ran) {
            began(31, ran);
            return super.tells(x, ran) ^ 7;
        }
    }

    private static final class Sure extends Plain {
        Sure(int kind, int number, int v) {
            super(kind, number, v);
        }

        int does(Ahead ahead, int sort, int stages) {
            int bits = ahead.cans(sort, stages);
            for (int work = 0; work < WORKS; work++) {
                if (hasBit(bits, work * DONE + 1)) {
                    return work;
                }
            }
            return super.does(ahead, sort, stages);
        }

        int tells(int x, int[] ran) {
            began(41, ran);
            return super.tells(x - 1, ran) + sows(2, ran);
        }
    }

    private static final class Best extends Left {
        Best(int kind, int number, int v) {
            super(kind, number, v);
        }

        int does(Ahead ahead, int sort, int stages) {
            return ahead.bestWork(sort, stages);
        }

        int sows(int x, int[] ran) {
            began(51, ran);
            return super.sows(x, ran) ^ number;
        }
    }

    private static final class Told extends Waiting {
        static final int NOTHING_TOLD = IDLE | IDLE << 2 | IDLE << 4;
        /** Two bits for each sort. */
        private final int row;

        Told(int number, int v, int row) {
            super(TOLD_KIND, number, v);
            this.row = row;
        }

        int toldFor(int sort) {
            return row >> 2 * sort & 3;
        }

        Told telling(int sort, int n) {
            int others = row & ~(3 << 2 * sort);
            return new Told(number, v, others | n << 2 * sort);
        }

        int does(Ahead ahead, int sort, int stages) {
            int work = toldFor(sort);
            if (isIn(ahead.cans(sort, stages), work)) {
                return work;
            }
            return super.does(ahead, sort, stages);
        }

        int cuts(int x, int[] ran) {
            began(61, ran);
            return super.cuts(x, ran) + v;
        }
    }
}
