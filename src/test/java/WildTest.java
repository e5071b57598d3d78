import java.util.Random;

/** Calls with any ints in any state, also behind the 512th: none throws, and what must hold of any answers holds. */
public final class WildTest {
    private static final long NO = Long.MIN_VALUE;
    /** With a tape, what opens a run and the laws, a run of so many calls stays within the 512 that are promised. */
    private static final int OBJECTS = 400, CALLS = 90, LAWFUL = 3, LONG_RUN = 40_000;
    private static final int[] ODD = {Integer.MIN_VALUE, Integer.MIN_VALUE + 10, -1001, -10, -5, -4, -3, -2, -1, 13, 15,
        16, 20, 22, 23, 30, 32, 33, 99, 100, 127, 128, Integer.MAX_VALUE - 10, Integer.MAX_VALUE};
    private static final String[] TEXTS = {
        "can 0 s=0;can 1 s=1&!(g>0);can 1 s=2&g=1;can 2 l<4|r>1&d>0;pay 0 9;pay 1 30;pay 2 12;cover 20",
        "can 0 !!!!!s=1;can 1 ((((s<2))));can 2 d<99;pay 0 0;pay 2 99;cover 99",
        "can 0 s<9;can 1 r=0|l=0;can 2 g=0&s=2|g=1&s=0;pay 1 50",
        "pay 0 5;cover 1", "can 0 s=0;", "can 1 (s=1", ""
    };
    private static int wrong = 0;
    private final Random chance;
    private final int seed;
    private final DaysBag x = new DaysBag();

    private WildTest(int seed) {
        this.seed = seed;
        chance = new Random(seed);
    }

    public static void main(String[] args) {
        for (int seed = 0; seed < OBJECTS && wrong < 20; seed++) {
            WildTest run = new WildTest(seed);
            run.open();
            run.go(CALLS);
            run.laws();
        }
        longRun();
        System.out.println(wrong == 0 ? "any calls are answered" : wrong + " answers can't be");
        if (wrong != 0) {
            System.exit(1);
        }
    }

    /** What later calls answer is free, but they throw no more than the first ones. */
    private static void longRun() {
        WildTest run = new WildTest(OBJECTS);
        for (int i = 0; i < LONG_RUN / CALLS; i++) {
            run.tape(TEXTS[i % TEXTS.length]);
            run.go(CALLS);
        }
    }

    private void open() {
        tape(TEXTS[chance.nextInt(TEXTS.length)]);
        for (int i = 0; i < LAWFUL; i++) {
            x.bag(i, chance.nextInt(6));
            x.worker(chance.nextInt(7), chance.nextInt(10));
        }
    }

    private void go(int calls) {
        for (int i = 0; i < calls; i++) {
            call(chance.nextInt(42), any(), any(), any(), any());
        }
    }

    private void law(boolean holds, String what) {
        if (!holds) {
            wrong++;
            System.out.println("seed " + seed + ": " + what);
        }
    }

    private int any() {
        int which = chance.nextInt(20);
        if (which == 0) {
            return chance.nextInt();
        }
        return which < 4 ? ODD[chance.nextInt(ODD.length)] : chance.nextInt(which < 8 ? 8 : 3);
    }

    private void tape(String text) {
        for (int i = 0; i < text.length(); i++) {
            x.feed(text.charAt(i));
        }
        x.valley();
    }

    private void call(int which, int a, int b, int c, int d) {
        if (which < 14) {
            change(which, a, b, c);
        } else if (which < 28) {
            ask(which, a, b, c, d);
        } else {
            askMore(which, a, b, c);
        }
    }

    private void change(int which, int a, int b, int c) {
        switch (which) {
            case 0: case 1: x.bag(a, b); break;
            case 2: x.feed(a); break;
            case 3: x.valley(); break;
            case 4: x.stage(a, b); break;
            case 5: x.worker(a, b); break;
            case 6: x.row(a, b, c); break;
            case 7: case 8: x.draw(a, b); break;
            case 9: x.book(a); break;
            case 10: x.other(a, b); break;
            case 11: x.act(a, b, c); break;
            case 12: x.image(); break;
            default: x.undo(); break;
        }
    }

    private void ask(int which, int a, int b, int c, int d) {
        switch (which) {
            case 14: x.told(a); break;
            case 15: x.of(a, b); break;
            case 16: odds("next", x.next(a, 0), x.next(a, 1)); break;
            case 17: odds("run", x.run(a, b, 0), x.run(a, b, 1)); break;
            case 18: odds("by", x.by(a, b, c, 0), x.by(a, b, c, 1)); break;
            case 19: fraction("first", x.first(a, 0), x.first(a, 1)); break;
            case 20: odds("before", x.before(a, b, 0), x.before(a, b, 1)); break;
            case 21: law(x.orders() >= 1 && x.orders() <= 756756, "orders() is " + x.orders()); break;
            case 22: odds("mean of what 1", x.mean(a, 1, 0), x.mean(a, 1, 1)); break;
            case 23: x.mean(a, b, c); break;
            case 24: x.today(a); break;
            case 25: law(x.whatever() >= 0 && x.whatever() < 8, "whatever() is " + x.whatever()); break;
            case 26: law(x.most() >= 0 && x.most() <= 297, "most() is " + x.most()); break;
            default: x.by(a, b, c, d); break;
        }
    }

    private void askMore(int which, int a, int b, int c) {
        switch (which) {
            case 28: fraction("put", x.put(a, 0), x.put(a, 1)); break;
            case 29: fraction("pass", x.pass(a, 0), x.pass(a, 1)); break;
            case 30: fraction("cover", x.cover(a, b, 0), x.cover(a, b, 1)); break;
            case 31: fraction("right", x.right(a, 0), x.right(a, 1)); break;
            case 32: odds("likely", x.likely(0), x.likely(1)); break;
            case 33: x.judged(a, b); break;
            case 34: law(x.same() >= 0 && x.same() <= 2, "same() is " + x.same()); break;
            case 35: x.trace(a); break;
            case 36: x.as(a, b); break;
            case 37: x.count(a); break;
            case 38: x.cover(a, b, c); break;
            case 39: x.likely(a); break;
            case 40: x.run(a, b, c); break;
            default: x.before(a, b, c); break;
        }
    }

    private void fraction(String name, long above, long below) {
        law((above == NO) == (below == NO), name + " is " + above + " by " + below);
        if (above != NO) {
            law(below >= 1 && common(Math.abs(above), below) == 1, name + " is " + above + " by " + below);
        }
    }

    private void odds(String name, long above, long below) {
        fraction(name, above, below);
        law(above == NO || above >= 0 && above <= below, name + " is " + above + " by " + below);
    }

    private static long common(long a, long b) {
        return b == 0 ? a : common(b, a % b);
    }

    private void laws() {
        if (x.told(2) == 0) {
            return;
        }
        nextDays();
        passedDays();
        int workers = Math.min(LAWFUL, x.count(0));
        for (int worker = 0; worker < workers; worker++) {
            gap(worker);
            drawn(worker);
        }
    }

    private void nextDays() {
        double all = 0;
        for (int sort = 0; sort < 3; sort++) {
            all += likelyNext(sort);
        }
        law(near(all, 1), "next of all sorts is " + all);
    }

    private double likelyNext(int sort) {
        return (double) x.next(sort, 0) / x.next(sort, 1);
    }

    /** What is lost, if the next day is told, is nothing in the mean over what the next day may be. */
    private void passedDays() {
        double all = 0;
        for (int sort = 0; sort < 3; sort++) {
            if (x.told(30 + sort) > 0) {
                all += likelyNext(sort) * x.pass(sort, 0) / x.pass(sort, 1);
                law(x.right(sort, 0) >= 0, "a right is worth " + x.right(sort, 0));
            }
        }
        law(near(all, 0), "pass in the mean is " + all);
    }

    private void gap(int worker) {
        double mean = mean(worker);
        law(x.mean(worker, 2, 0) >= 0, "a BEST one has less than worker " + worker);
        law(mean >= 0 && mean <= x.most() + 1e-9, "worker " + worker + " has more than most()");
        if (x.of(worker, 0) == 5) {
            law(x.mean(worker, 2, 0) == 0, "two BEST ones differ");
        }
    }

    private double mean(int worker) {
        return (double) x.mean(worker, 0, 0) / x.mean(worker, 0, 1);
    }

    /** The mean is that of what a draw pays and of the mean behind it; of() and draw() do the same work. */
    private void drawn(int worker) {
        double due = mean(worker);
        double all = 0;
        x.image();
        for (int sort = 0; sort < 3; sort++) {
            if (x.told(30 + sort) > 0) {
                double likely = likelyNext(sort);
                int work = x.of(worker, 10 + sort);
                int was = work < 0 ? 0 : x.told(20 + work);
                int paid = x.draw(worker, sort);
                all += likely * (paid + mean(worker));
                law(work < 0 ? paid == 0 : x.told(20 + work) == was + 1, "draw() does not do of()'s work");
                x.undo();
            }
        }
        law(near(all, due), "worker " + worker + ": the mean is " + due + ", over the draws " + all);
    }

    private static boolean near(double a, double b) {
        return Math.abs(a - b) < 1e-9;
    }
}
