/** Promise by promise: answers worked out by hand from the document, its edges, and wrong inputs. */
public final class PromisesTest {
    private static final long NO = Long.MIN_VALUE;
    private static final int MIN = Integer.MIN_VALUE, MAX = Integer.MAX_VALUE;
    private static int wrong = 0;
    private static int promise = 0;

    public static void main(String[] args) {
        newObject();
        bag();
        feed();
        valley();
        valleyFaults();
        told();
        stage();
        worker();
        row();
        of();
        ofKinds();
        draw();
        drawsAndTests();
        lastDay();
        next();
        run();
        by();
        first();
        before();
        orders();
        mean();
        meanOfKinds();
        today();
        whatever();
        most();
        put();
        pass();
        cover();
        right();
        book();
        likely();
        judged();
        other();
        same();
        act();
        trace();
        as();
        image();
        undo();
        count();
        System.out.println(wrong == 0 ? "the promises hold" : wrong + " answers are not as promised");
        if (wrong != 0) {
            System.exit(1);
        }
    }

    private static void due(String call, long got, long want) {
        if (got != want) {
            wrong++;
            System.out.println("promise " + promise + ": " + call + " answered " + got + ", due is " + want);
        }
    }

    private static void odds(String call, long above, long below, long wantAbove, long wantBelow) {
        due(call + " above", above, wantAbove);
        due(call + " below", below, wantBelow);
    }

    private static int read(DaysBag x, String text) {
        for (int i = 0; i < text.length(); i++) {
            x.feed(text.charAt(i));
        }
        return x.valley();
    }

    private static DaysBag with(int a, int b, int c, String text) {
        DaysBag x = new DaysBag();
        x.bag(0, a);
        x.bag(1, b);
        x.bag(2, c);
        if (!text.isEmpty()) {
            due("valley() of " + text, read(x, text), 0);
        }
        return x;
    }

    private static void newObject() {
        promise = 1;
        DaysBag x = new DaysBag();
        for (int sort = 0; sort < 3; sort++) {
            due("told bag", x.told(30 + sort), 0);
            due("told stage", x.told(20 + sort), 0);
            due("told pay", x.told(10 + sort), 1);
            due("other", x.other(sort, 0), 0);
        }
        for (int what = 0; what < 5; what++) {
            due("count(" + what + ")", x.count(what), 0);
        }
        due("told(0)", x.told(0), 0);
        due("told(1)", x.told(1), 0);
        due("told(2)", x.told(2), 0);
        due("undo()", x.undo(), DaysBag.STATE);
        due("trace(0)", x.trace(0), DaysBag.NONE);
        due("most()", x.most(), 0);
        due("whatever()", x.whatever(), 0);
        DaysBag bare = with(1, 1, 1, "");
        bare.worker(1, 0);
        bare.worker(5, 0);
        due("no can without a valley", bare.of(0, 10), -5);
        due("no mean without a valley", bare.mean(1, 0, 0), 0);
        due("NO", DaysBag.NO, NO);
        due("NONE", DaysBag.NONE, -1);
        due("BAD", DaysBag.BAD, -2);
        due("STATE", DaysBag.STATE, -3);
        due("FULL", DaysBag.FULL, -4);
    }

    private static void bag() {
        promise = 2;
        DaysBag x = new DaysBag();
        due("bag(1, 5)", x.bag(1, 5), 0);
        due("bag(1, 0)", x.bag(1, 0), 5);
        due("bag(1, 2)", x.bag(1, 2), 0);
        due("bag(-1, 2)", x.bag(-1, 2), DaysBag.NONE);
        due("bag(3, 9)", x.bag(3, 9), DaysBag.NONE);
        due("bag(MIN, 0)", x.bag(MIN, 0), DaysBag.NONE);
        due("bag(MAX, 0)", x.bag(MAX, 0), DaysBag.NONE);
        due("bag(1, -1)", x.bag(1, -1), DaysBag.BAD);
        due("bag(1, 6)", x.bag(1, 6), DaysBag.BAD);
        due("bag(1, 3)", x.bag(1, 3), 2);
        due("told(31)", x.told(31), 3);
        due("told(30)", x.told(30), 0);
    }

    private static void feed() {
        promise = 3;
        DaysBag x = new DaysBag();
        due("feed(-1)", x.feed(-1), DaysBag.BAD);
        due("feed(128)", x.feed(128), DaysBag.BAD);
        due("feed(0)", x.feed(0), 1);
        due("feed(127)", x.feed(127), 2);
        for (int i = 3; i <= 100; i++) {
            due("feed", x.feed(65), i);
        }
        due("feed, full", x.feed(65), DaysBag.FULL);
        due("feed, bad ahead of full", x.feed(128), DaysBag.BAD);
        due("count(3)", x.count(3), 100);
    }

    private static void valley() {
        promise = 4;
        DaysBag x = new DaysBag();
        due("first", read(x, "pay 0 7;cover 3"), 0);
        due("told(10)", x.told(10), 7);
        due("tape", x.count(3), 0);
        due("fault", read(x, "pay 0 8;x"), -18);
        due("tape after a fault", x.count(3), 0);
        due("the one that held holds", x.told(10), 7);
        due("valleys", x.count(1), 1);
        due("second", read(x, "pay 1 5"), 1);
        due("newest holds", x.told(10), 1);
        due("newest holds", x.told(11), 5);
        due("newest holds", x.told(0), 0);
        due("third", read(x, "cover 19"), 2);
        due("two digits", x.told(0), 19);
        due("fourth", read(x, "cover 0"), 3);
        due("fifth", read(x, "pay 2 10;pay 2 20;cover 8;cover 9"), 4);
        due("the last n holds", x.told(12), 20);
        due("the last n holds", x.told(0), 9);
        due("sixth", read(x, "cover 1"), DaysBag.FULL);
        due("the tape stays", x.count(3), 7);
        due("full once more", x.valley(), DaysBag.FULL);
        due("held", x.told(0), 9);
        due("valleys", x.count(1), 5);
    }

    private static void valleyFaults() {
        String[] sound = {
            "can 0 s=0", "can 2 d>99", "pay 2 0", "cover 10", "can 0 !s=0", "can 0 (s=0)",
            "can 0 !!!!!s=0", "can 0 (((((s=0)))))", "can 0 !(!(!s=0))", "can 0 !!!!!s=0|!!!!!s=1&((((!g=0))))",
            "can 0 (s=0|l<4)&r>1|d=10", "pay 0 1;pay 0 1;pay 0 1;pay 0 1;pay 0 1;pay 0 1;pay 0 1;pay 0 1;pay 0 1;pay 0 1"
        };
        for (String text : sound) {
            due(text, read(new DaysBag(), text), 0);
        }
        fault("", 0);
        fault(";", 0);
        fault("c", 1);
        fault("b", 0);
        fault("Can 0 s=0", 0);
        fault("cb", 1);
        fault("cab", 2);
        fault("can", 3);
        fault("can  0", 4);
        fault("can 3", 4);
        fault("can 0s", 5);
        fault("can 0 ", 6);
        fault("can 0  s=0", 6);
        fault("can 0 s", 7);
        fault("can 0 s!", 7);
        fault("can 0 s=", 8);
        fault("can 0 s=x", 8);
        fault("can 0 s=0 ", 9);
        fault("can 0 s=00", 9);
        fault("can 0 s=100", 10);
        fault("can 0 s=0)", 9);
        fault("can 0 (s=0", 10);
        fault("can 0 (s=0;", 10);
        fault("can 0 (s=0)(", 11);
        fault("can 0 s=0!", 9);
        fault("can 0 s=0|", 10);
        fault("can 0 s=0||", 10);
        fault("can 0 s=0&;", 10);
        fault("can 0 ()", 7);
        fault("can 0 ((((((s=0", 11);
        fault("can 0 (!(!((s=0", 11);
        fault("can 0 !(!(!(s=0", 11);
        fault("can 0 (s=0&!!!!!", 15);
        fault("can 0 s=0;;", 10);
        fault("can 0 s=0;", 10);
        fault("can 0 s=0; pay 0 1", 10);
        fault("can 0 !", 7);
        fault("can 0 !;", 7);
        fault("can 0 !&s=0", 7);
        fault("can 0 (", 7);
        fault("can0 s=0", 3);
        fault("pa0 1", 2);
        fault("cov5", 3);
        fault("pay", 3);
        fault("pay 0", 5);
        fault("pay 0 ", 6);
        fault("pay 0 -", 6);
        fault("pay 3 1", 4);
        fault("pay 0 1|", 7);
        fault("pa 0 1", 2);
        fault("cover", 5);
        fault("cover  1", 6);
        fault("cover 1 1", 7);
        fault("cover 01", 7);
        fault("cover 1;pay 0 1;can 1 z", 22);
        fault("pay 0 1;pay 0 1;pay 0 1;pay 0 1;pay 0 1;pay 0 1;pay 0 1;pay 0 1;pay 0 1;pay 0 1;", 79);
        fault("cover 1" + (char) 0, 7);
    }

    private static void fault(String text, int place) {
        due("FAULT of '" + text + "'", read(new DaysBag(), text), -10 - place);
    }

    private static void told() {
        promise = 5;
        DaysBag x = with(2, 3, 4, "pay 0 20;pay 1 30;pay 2 40;cover 50;can 0 s=0");
        x.stage(0, 1);
        x.stage(1, 2);
        x.worker(0, 0);
        x.draw(0, 2);
        int[] whats = {0, 1, 2, 10, 11, 12, 20, 21, 22, 30, 31, 32};
        int[] wants = {50, 1, 8, 20, 30, 40, 1, 2, 0, 2, 3, 3};
        for (int i = 0; i < whats.length; i++) {
            due("told(" + whats[i] + ")", x.told(whats[i]), wants[i]);
        }
        int[] none = {-1, 3, 9, 13, 19, 23, 29, 33, 40, MIN, MAX};
        for (int what : none) {
            due("told(" + what + ")", x.told(what), DaysBag.NONE);
        }
    }

    private static void stage() {
        promise = 6;
        DaysBag x = with(1, 0, 0, "can 0 s=0;pay 0 9");
        x.worker(1, 0);
        due("stage(0, 2)", x.stage(0, 2), 0);
        due("stage(0, 1)", x.stage(0, 1), 2);
        due("stage(2, 0)", x.stage(2, 0), 0);
        due("stage(2, 1)", x.stage(2, 1), 0);
        due("stage(-1, 9)", x.stage(-1, 9), DaysBag.NONE);
        due("stage(3, 0)", x.stage(3, 0), DaysBag.NONE);
        due("stage(0, 3)", x.stage(0, 3), DaysBag.BAD);
        due("stage(0, -1)", x.stage(0, -1), DaysBag.BAD);
        due("told(20)", x.told(20), 1);
        due("told(21)", x.told(21), 0);
        due("told(22)", x.told(22), 1);
        due("draw pays the second stage", x.draw(0, 0), 9);
    }

    private static void worker() {
        promise = 7;
        DaysBag x = new DaysBag();
        due("worker(-1, 99)", x.worker(-1, 99), DaysBag.NONE);
        due("worker(7, 0)", x.worker(7, 0), DaysBag.NONE);
        due("worker(0, -1)", x.worker(0, -1), DaysBag.BAD);
        due("worker(6, 10)", x.worker(6, 10), DaysBag.BAD);
        for (int i = 0; i < 8; i++) {
            due("worker", x.worker(i % 7, 9 - i), i);
        }
        due("ninth", x.worker(0, 0), DaysBag.FULL);
        due("none ahead of full", x.worker(7, 0), DaysBag.NONE);
        due("bad ahead of full", x.worker(0, 10), DaysBag.BAD);
        due("count(0)", x.count(0), 8);
        due("no ninth", x.of(8, 0), DaysBag.NONE);
        due("of(3, 1)", x.of(3, 1), 6);
    }

    private static void row() {
        promise = 8;
        DaysBag x = new DaysBag();
        x.worker(6, 0);
        x.worker(3, 0);
        due("row(0, 2, 0)", x.row(0, 2, 0), 3);
        due("row(0, 2, 1)", x.row(0, 2, 1), 0);
        due("row(0, 1, 2)", x.row(0, 1, 2), 3);
        due("row(0, 2, 3)", x.row(0, 2, 3), 1);
        due("row(0, 1, 0)", x.row(0, 1, 0), 2);
        due("row(2, 0, 0)", x.row(2, 0, 0), DaysBag.NONE);
        due("row(-1, 0, 0)", x.row(-1, 0, 0), DaysBag.NONE);
        due("row(0, 3, 9)", x.row(0, 3, 9), DaysBag.NONE);
        due("row(0, -1, 0)", x.row(0, -1, 0), DaysBag.NONE);
        due("row(0, 0, 4)", x.row(0, 0, 4), DaysBag.BAD);
        due("row(1, 0, -1)", x.row(1, 0, -1), DaysBag.BAD);
        due("row(1, 0, 0)", x.row(1, 0, 0), DaysBag.STATE);
        due("row(0, 0, 0)", x.row(0, 0, 0), 3);
    }

    private static void of() {
        promise = 9;
        DaysBag x = with(1, 0, 0, "can 1 s<9;can 2 s<9;pay 2 5");
        for (int kind = 0; kind < 7; kind++) {
            x.worker(kind, kind + 1);
            due("KIND", x.of(kind, 0), kind);
            due("v", x.of(kind, 1), kind + 1);
            due("none of it", x.of(kind, 11), -5);
        }
        due("of(-1, 0)", x.of(-1, 0), DaysBag.NONE);
        due("of(7, 0)", x.of(7, 0), DaysBag.NONE);
        for (int what : new int[] {-1, 2, 9, 13, MIN, MAX}) {
            due("of(0, " + what + ")", x.of(0, what), DaysBag.NONE);
        }
        due("nothing changes", x.told(30), 1);
        due("nothing changes", x.told(21), 0);
    }

    private static void ofKinds() {
        DaysBag x = with(2, 2, 1, "can 0 s=0;can 1 s<2;can 2 s<2;pay 0 4;pay 1 8;pay 2 8");
        x.worker(0, 9);
        x.worker(1, 0);
        x.worker(2, 0);
        x.worker(3, 4);
        x.worker(3, 3);
        x.worker(4, 0);
        x.worker(6, 3);
        x.worker(6, 4);
        due("WORKER", x.of(0, 10), -5);
        due("PLAIN", x.of(1, 10), 0);
        due("PLAIN", x.of(1, 11), 1);
        due("PLAIN", x.of(1, 12), -5);
        due("LEFT, of several the least", x.of(2, 10), 1);
        due("WAITING, 4 are left then", x.of(3, 10), 0);
        due("WAITING, more than v", x.of(4, 10), -5);
        due("SURE as PLAIN", x.of(5, 10), 0);
        x.stage(2, 1);
        due("SURE", x.of(5, 10), 2);
        due("SURE, none can", x.of(5, 12), -5);
        x.stage(1, 1);
        due("SURE, the least", x.of(5, 10), 1);
        x.stage(0, 1);
        due("SURE, the least", x.of(5, 10), 0);
        x.stage(0, 0);
        due("TOLD none, waits", x.of(6, 10), -5);
        due("TOLD none, as PLAIN", x.of(7, 10), 0);
        x.row(6, 0, 2);
        x.row(7, 0, 2);
        x.row(7, 1, 0);
        due("TOLD", x.of(6, 10), 2);
        due("TOLD", x.of(7, 10), 2);
        due("TOLD what can't be done", x.of(7, 11), 1);
        x.stage(2, 2);
        due("TOLD what is done", x.of(7, 10), 0);
        due("TOLD what is done, waits", x.of(6, 10), -5);
        x.stage(0, 2);
        x.stage(1, 2);
        due("all done", x.of(1, 10), -5);
        due("all done", x.of(2, 10), -5);
    }

    private static void draw() {
        promise = 10;
        DaysBag x = with(3, 1, 0, "can 0 s=0;pay 0 6;can 1 s=0");
        x.worker(1, 0);
        due("draw(1, 0)", x.draw(1, 0), -1001);
        due("draw(-1, 0)", x.draw(-1, 0), -1001);
        due("draw(0, 3)", x.draw(0, 3), -1001);
        due("draw(0, -1)", x.draw(0, -1), -1001);
        due("draw(0, 2)", x.draw(0, 2), -1002);
        due("draw(0, 0)", x.draw(0, 0), 0);
        due("stage", x.told(20), 1);
        due("one work a day", x.told(21), 0);
        due("draw(0, 1)", x.draw(0, 1), 0);
        due("stage", x.told(20), 1);
        due("draw(0, 0)", x.draw(0, 0), 6);
        due("stage", x.told(20), 2);
        due("day", x.told(1), 3);
        due("rest", x.told(2), 1);
        due("draw(0, 0)", x.draw(0, 0), 0);
        due("stage", x.told(21), 1);
        due("draw(0, 0)", x.draw(0, 0), -1002);
        due("day", x.told(1), 4);
    }

    /** Each sign of a TEST on a day that was drawn: rest and the sort's days are those behind it. */
    private static void drawsAndTests() {
        String[] can = {"s=1", "g=0", "l=4", "r=1", "d=0", "s<2", "s>0", "!s=0", "!(s=0|s=2)", "s=1&r=1|s=0",
            "s=0|s=1&r=1", "s=0&s=2|s=1", "s=1|s=0&s=2", "!s=0&s=1",
            "s=1|(s=0|l=4&(d=0&s=0))", "s=0|(s=1&(l=4&(r=1&d=0)))", "l<5", "l>3", "d<1", "r>0", "r<2"};
        String[] not = {"s=0", "g=1", "l=5", "r=2", "d=1", "s<1", "s>1", "!s=1", "!(s=0|s=1)", "s=1&(r=2|s=0)",
            "!s=1&s=2", "!(!s=1|s=2)&s=0", "l<4", "l>4", "d<0", "r>1", "r<1", "g>0"};
        for (String text : can) {
            due("can 0 " + text, doing(text), 0);
        }
        for (String text : not) {
            due("can 0 " + text, doing(text), -5);
        }
        DaysBag x = with(1, 1, 1, "can 0 s=0;can 0 s=2;can 1 s=1&g=1");
        x.worker(1, 0);
        due("some can", x.of(0, 10), 0);
        due("some can", x.of(0, 12), 0);
        due("no can", x.of(0, 11), -5);
        x.stage(0, 1);
        due("g of another work", x.of(0, 11), -5);
        x.stage(1, 1);
        due("g of the work", x.of(0, 11), 1);
    }

    private static int doing(String condition) {
        DaysBag x = with(1, 2, 2, "can 0 " + condition);
        x.worker(1, 0);
        return x.of(0, 11);
    }

    private static void lastDay() {
        DaysBag x = new DaysBag();
        x.worker(1, 0);
        for (int day = 0; day < 99; day++) {
            if (x.told(30) == 0) {
                x.bag(0, 5);
            }
            due("draw", x.draw(0, 0), 0);
        }
        due("day 99", x.told(1), 99);
        x.bag(0, 5);
        due("draw on day 99", x.draw(0, 0), -1002);
        due("the bag stays", x.told(30), 5);
        due("no such sort comes first", x.draw(0, 3), -1001);
    }

    private static void next() {
        promise = 11;
        DaysBag x = with(4, 2, 0, "");
        odds("next(0)", x.next(0, 0), x.next(0, 1), 2, 3);
        odds("next(1)", x.next(1, 0), x.next(1, 1), 1, 3);
        odds("next(2)", x.next(2, 0), x.next(2, 1), 0, 1);
        due("next(3, 0)", x.next(3, 0), NO);
        due("next(-1, 0)", x.next(-1, 0), NO);
        due("next(0, 2)", x.next(0, 2), NO);
        due("next(0, -1)", x.next(0, -1), NO);
        DaysBag empty = new DaysBag();
        odds("empty", empty.next(2, 0), empty.next(2, 1), 0, 1);
        empty.bag(2, 1);
        odds("one day", empty.next(2, 0), empty.next(2, 1), 1, 1);
    }

    private static void run() {
        promise = 12;
        DaysBag x = with(5, 1, 0, "");
        odds("run(0, 1)", x.run(0, 1, 0), x.run(0, 1, 1), 5, 6);
        odds("run(0, 5)", x.run(0, 5, 0), x.run(0, 5, 1), 1, 6);
        odds("run(1, 2)", x.run(1, 2, 0), x.run(1, 2, 1), 0, 1);
        due("run(0, 0)", x.run(0, 0, 0), NO);
        due("run(0, 6)", x.run(0, 6, 0), NO);
        due("run(3, 1)", x.run(3, 1, 0), NO);
        due("run(0, 1, 2)", x.run(0, 1, 2), NO);
        DaysBag empty = new DaysBag();
        odds("empty", empty.run(0, 5, 0), empty.run(0, 5, 1), 0, 1);
        empty.bag(0, 5);
        odds("all", empty.run(0, 5, 0), empty.run(0, 5, 1), 1, 1);
    }

    private static void by() {
        promise = 13;
        DaysBag x = with(5, 5, 5, "");
        odds("by(0, 15, 5)", x.by(0, 15, 5, 0), x.by(0, 15, 5, 1), 1, 1);
        odds("by(0, 1, 0)", x.by(0, 1, 0, 0), x.by(0, 1, 0, 1), 1, 1);
        odds("by(0, 1, 1)", x.by(0, 1, 1, 0), x.by(0, 1, 1, 1), 1, 3);
        odds("by(0, 1, 2)", x.by(0, 1, 2, 0), x.by(0, 1, 2, 1), 0, 1);
        odds("by(0, 2, 1)", x.by(0, 2, 1, 0), x.by(0, 2, 1, 1), 4, 7);
        odds("by(0, 5, 5)", x.by(0, 5, 5, 0), x.by(0, 5, 5, 1), 1, 3003);
        due("by(0, 0, 0)", x.by(0, 0, 0, 0), NO);
        due("by(0, 16, 0)", x.by(0, 16, 0, 0), NO);
        due("by(0, 1, 6)", x.by(0, 1, 6, 0), NO);
        due("by(0, 1, -1)", x.by(0, 1, -1, 0), NO);
        due("by(3, 1, 1)", x.by(3, 1, 1, 0), NO);
        due("by(0, 1, 1, 2)", x.by(0, 1, 1, 2), NO);
        x.bag(0, 4);
        due("by, more than the rest", x.by(0, 15, 1, 0), NO);
        due("by, all of the rest", x.by(0, 14, 4, 0), 1);
        due("by, more than there are", x.by(0, 14, 5, 0), 0);
    }

    private static void first() {
        promise = 14;
        DaysBag x = with(3, 2, 0, "");
        odds("first(0)", x.first(0, 0), x.first(0, 1), 3, 2);
        odds("first(1)", x.first(1, 0), x.first(1, 1), 2, 1);
        due("first(2)", x.first(2, 0), NO);
        due("first(3)", x.first(3, 0), NO);
        due("first(0, 2)", x.first(0, 2), NO);
    }

    private static void before() {
        promise = 15;
        DaysBag x = with(4, 2, 0, "");
        odds("before(0, 1)", x.before(0, 1, 0), x.before(0, 1, 1), 2, 3);
        odds("before(1, 0)", x.before(1, 0, 0), x.before(1, 0, 1), 1, 3);
        odds("before(0, 2)", x.before(0, 2, 0), x.before(0, 2, 1), 1, 1);
        odds("before(2, 0)", x.before(2, 0, 0), x.before(2, 0, 1), 0, 1);
        due("before(0, 0)", x.before(0, 0, 0), NO);
        due("before(0, 3)", x.before(0, 3, 0), NO);
        due("before(-1, 0)", x.before(-1, 0, 0), NO);
        due("before(0, 1, 2)", x.before(0, 1, 2), NO);
        x.bag(1, 0);
        due("none of both", x.before(1, 2, 0), NO);
        x.bag(2, 1);
        odds("one day of both", x.before(1, 2, 0), x.before(1, 2, 1), 0, 1);
    }

    private static void orders() {
        promise = 16;
        due("empty", new DaysBag().orders(), 1);
        due("one sort", with(0, 5, 0, "").orders(), 1);
        due("(1, 1, 1)", with(1, 1, 1, "").orders(), 6);
        due("(2, 2, 0)", with(2, 2, 0, "").orders(), 6);
        due("(1, 2, 4)", with(1, 2, 4, "").orders(), 105);
        due("(1, 3, 1)", with(1, 3, 1, "").orders(), 20);
        due("(5, 5, 5)", with(5, 5, 5, "").orders(), 756756);
    }

    private static void mean() {
        promise = 17;
        // Two days of sort 0 are enough for one of both works, in whatever order.
        DaysBag x = with(2, 2, 0, "can 0 s=0;can 1 s=0;pay 0 4;pay 1 4");
        x.worker(0, 0);
        x.worker(1, 0);
        x.worker(5, 0);
        odds("WORKER", x.mean(0, 0, 0), x.mean(0, 0, 1), 0, 1);
        odds("PLAIN", x.mean(1, 0, 0), x.mean(1, 0, 1), 4, 1);
        odds("GAP of BEST", x.mean(2, 2, 0), x.mean(2, 2, 1), 0, 1);
        odds("GAP of WORKER", x.mean(0, 2, 0), x.mean(0, 2, 1), 4, 1);
        odds("ALL", x.mean(1, 1, 0), x.mean(1, 1, 1), 0, 1);
        x.stage(1, 2);
        x.stage(2, 2);
        odds("ALL", x.mean(1, 1, 0), x.mean(1, 1, 1), 1, 1);
        odds("ALL of WORKER", x.mean(0, 1, 0), x.mean(0, 1, 1), 0, 1);
        due("mean(3, 0)", x.mean(3, 0, 0), NO);
        due("mean(-1, 0)", x.mean(-1, 0, 0), NO);
        due("mean(0, 3)", x.mean(0, 3, 0), NO);
        due("mean(0, -1)", x.mean(0, -1, 0), NO);
        due("mean(0, 0, 2)", x.mean(0, 0, 2), NO);
        DaysBag empty = new DaysBag();
        empty.worker(1, 0);
        odds("ALL of nothing", empty.mean(0, 1, 0), empty.mean(0, 1, 1), 0, 1);
        for (int work = 0; work < 3; work++) {
            empty.stage(work, 2);
        }
        odds("all are done", empty.mean(0, 1, 0), empty.mean(0, 1, 1), 1, 1);
        odds("nothing is paid", empty.mean(0, 0, 0), empty.mean(0, 0, 1), 0, 1);
    }

    private static void meanOfKinds() {
        // Two days, sorts 0 and 1; work 0 on either, work 1 (9) on a day of sort 0 alone; both at stage 1.
        DaysBag x = with(1, 1, 0, "can 0 s<2;can 1 s=0;pay 0 2;pay 1 9");
        x.stage(0, 1);
        x.stage(1, 1);
        x.worker(1, 0);
        x.worker(2, 0);
        x.worker(3, 0);
        x.worker(5, 0);
        // 01: 0 then none (2); 10: 0, then 1 (11).
        odds("PLAIN", x.mean(0, 0, 0), x.mean(0, 0, 1), 13, 2);
        odds("LEFT", x.mean(1, 0, 0), x.mean(1, 0, 1), 11, 1);
        odds("WAITING for the last", x.mean(2, 0, 0), x.mean(2, 0, 1), 2, 1);
        odds("BEST", x.mean(3, 0, 0), x.mean(3, 0, 1), 11, 1);
        odds("GAP of PLAIN", x.mean(0, 2, 0), x.mean(0, 2, 1), 9, 2);
        x.stage(2, 2);
        odds("ALL of PLAIN", x.mean(0, 1, 0), x.mean(0, 1, 1), 1, 2);
        odds("ALL of BEST", x.mean(3, 1, 0), x.mean(3, 1, 1), 1, 1);
        // On a day as good as another one BEST does none: with nothing paid nothing is done.
        DaysBag y = with(3, 0, 0, "can 0 s=0;pay 0 0");
        y.worker(5, 0);
        y.stage(1, 2);
        y.stage(2, 2);
        odds("ALL of BEST, nothing paid", y.mean(0, 1, 0), y.mean(0, 1, 1), 0, 1);
    }

    private static void today() {
        promise = 18;
        DaysBag x = with(2, 1, 0, "can 0 s=0;can 1 s<2;pay 0 5;pay 1 5;can 2 s=1");
        due("today(3)", x.today(3), DaysBag.NONE);
        due("today(-1)", x.today(-1), DaysBag.NONE);
        due("today(2)", x.today(2), DaysBag.STATE);
        // After a day of sort 1 with work 1, one more day is enough; with none, two of sort 0 are left.
        due("none, if that is as good", x.today(1), -5);
        due("none, if that is as good", x.today(0), -5);
        x.bag(1, 0);
        due("the least of several", x.today(0), 0);
        x.bag(1, 1);
        x.stage(1, 1);
        due("work 1, as two days of 0 are left", x.today(1), 1);
        x.stage(1, 2);
        due("work 0 needs both days", x.today(0), 0);
        due("day of 1 pays nothing", x.today(1), -5);
    }

    private static void whatever() {
        promise = 19;
        due("two of sort 0", with(2, 1, 0, "can 0 s=0;can 1 s=1;can 2 s<2").whatever(), 5);
        due("by what is left", with(2, 2, 0, "can 0 l<2;can 1 s=0&l<3").whatever(), 1);
        DaysBag x = with(0, 1, 0, "can 1 s=1");
        x.stage(1, 1);
        x.stage(2, 2);
        due("those that have it", x.whatever(), 6);
        x.bag(1, 0);
        due("empty", x.whatever(), 4);
        due("each alone", with(2, 0, 0, "can 0 s=0;can 1 s=0;can 2 s=0").whatever(), 7);
        // Done whenever it can be: the first stage too early shuts the second one.
        due("greedy", with(3, 0, 0, "can 0 g=0|d=1&g=1").whatever(), 1);
        due("greedy", with(3, 0, 0, "can 0 g=0|d=0&g=1").whatever(), 0);
    }

    private static void most() {
        promise = 20;
        DaysBag x = with(2, 2, 0, "can 0 s=0&d<2;can 1 s=0&d<2;can 1 s=1&d>1;pay 0 7;pay 1 20");
        due("0011", x.most(), 27);
        x.bag(1, 1);
        due("001", x.most(), 20);
        due("one waits for a better day", with(1, 0, 0, "can 0 s=0").most(), 0);
        DaysBag y = with(1, 0, 0, "can 0 s=0;can 1 s=0;pay 1 3");
        y.stage(0, 1);
        y.stage(1, 1);
        due("one work a day", y.most(), 3);
        due("empty", new DaysBag().most(), 0);
    }

    private static void put() {
        promise = 21;
        DaysBag x = with(1, 1, 0, "can 0 s=0;pay 0 6");
        odds("put(0)", x.put(0, 0), x.put(0, 1), 6, 1);
        odds("put(1)", x.put(1, 0), x.put(1, 1), 0, 1);
        DaysBag y = with(1, 0, 0, "can 0 s=0&d=0;pay 0 6");
        y.stage(0, 1);
        odds("put, less likely the first", y.put(1, 0), y.put(1, 1), -3, 1);
        odds("put, less likely the first", y.put(2, 0), y.put(2, 1), -3, 1);
        odds("put one more", y.put(0, 0), y.put(0, 1), 0, 1);
        due("put(3)", y.put(3, 0), NO);
        due("put(0, 2)", y.put(0, 2), NO);
        y.bag(1, 5);
        due("five are there", y.put(1, 0), NO);
        y.bag(1, 4);
        odds("the fifth", y.put(1, 0), y.put(1, 1), -1, 5);
        due("the bag stays", y.told(31), 4);
    }

    private static void pass() {
        promise = 22;
        DaysBag x = with(1, 2, 0, "can 0 s=0&d=0;pay 0 6");
        x.stage(0, 1);
        odds("pass(0)", x.pass(0, 0), x.pass(0, 1), -4, 1);
        odds("pass(1)", x.pass(1, 0), x.pass(1, 1), 2, 1);
        due("pass(2)", x.pass(2, 0), NO);
        due("pass(3)", x.pass(3, 0), NO);
        due("pass(0, 2)", x.pass(0, 2), NO);
    }

    private static void cover() {
        promise = 23;
        DaysBag x = with(1, 3, 0, "cover 10");
        odds("cover(0, 1)", x.cover(0, 1, 0), x.cover(0, 1, 1), 5, 2);
        odds("cover(0, 2)", x.cover(0, 2, 0), x.cover(0, 2, 1), 5, 1);
        odds("cover(0, 4)", x.cover(0, 4, 0), x.cover(0, 4, 1), 10, 1);
        odds("cover, all of the rest", x.cover(0, 15, 0), x.cover(0, 15, 1), 10, 1);
        odds("cover(1, 2)", x.cover(1, 2, 0), x.cover(1, 2, 1), 10, 1);
        odds("cover(2, 4)", x.cover(2, 4, 0), x.cover(2, 4, 1), 0, 1);
        due("cover(0, 0)", x.cover(0, 0, 0), NO);
        due("cover(0, 16)", x.cover(0, 16, 0), NO);
        due("cover(3, 1)", x.cover(3, 1, 0), NO);
        due("cover(0, 1, 2)", x.cover(0, 1, 2), NO);
    }

    private static void right() {
        promise = 24;
        DaysBag x = with(1, 0, 0, "can 0 s=0;can 0 s=1;pay 0 6");
        x.stage(0, 1);
        odds("the only day", x.right(0, 0), x.right(0, 1), 6, 1);
        x.bag(0, 2);
        odds("another day of it", x.right(0, 0), x.right(0, 1), 0, 1);
        due("right(1)", x.right(1, 0), NO);
        due("right(3)", x.right(3, 0), NO);
        due("right(0, 2)", x.right(0, 2), NO);
        // Day 0 alone: of two days one is of sort 0, which comes first in half of the orders.
        DaysBag y = with(1, 1, 0, "can 0 s=0&d=0;pay 0 6");
        y.stage(0, 1);
        odds("half of the orders", y.right(0, 0), y.right(0, 1), 3, 1);
        odds("another sort", y.right(1, 0), y.right(1, 1), 0, 1);
        DaysBag first = with(2, 0, 0, "can 0 d=0;pay 0 6");
        first.stage(0, 1);
        odds("the first day of it", first.right(0, 0), first.right(0, 1), 6, 1);
        first.bag(0, 1);
        first.bag(1, 1);
        odds("the first day of it", first.right(0, 0), first.right(0, 1), 3, 1);
        // One who knows that the day of sort 1 is shut does work 1 on the other one, and loses work 0 alone.
        DaysBag z = with(1, 1, 0, "can 0 s<2;can 1 s<2;pay 0 4;pay 1 10");
        z.stage(0, 1);
        z.stage(1, 1);
        odds("it knows", z.right(1, 0), z.right(1, 1), 4, 1);
    }

    private static void book() {
        promise = 25;
        DaysBag x = new DaysBag();
        due("book(-1)", x.book(-1), 0);
        due("book(3)", x.book(3), DaysBag.NONE);
        due("book(-2)", x.book(-2), DaysBag.NONE);
        for (int i = 1; i <= 12; i++) {
            due("book", x.book(i % 3), i);
        }
        due("full", x.book(0), DaysBag.FULL);
        due("none ahead of full", x.book(3), DaysBag.NONE);
        due("count(2)", x.count(2), 12);
        due("book(-1)", x.book(-1), 0);
        due("count(2)", x.count(2), 0);
        due("book(0)", x.book(0), 1);
    }

    private static void likely() {
        promise = 26;
        DaysBag x = with(2, 1, 1, "");
        odds("empty book", x.likely(0), x.likely(1), 1, 1);
        x.book(0);
        odds("0", x.likely(0), x.likely(1), 1, 2);
        x.book(1);
        odds("01", x.likely(0), x.likely(1), 1, 6);
        x.book(0);
        x.book(2);
        odds("0102", x.likely(0), x.likely(1), 1, 12);
        x.book(2);
        odds("01022", x.likely(0), x.likely(1), 0, 1);
        due("likely(2)", x.likely(2), NO);
        due("likely(-1)", x.likely(-1), NO);
        DaysBag y = with(5, 5, 5, "");
        for (int i = 0; i < 12; i++) {
            y.book(i % 3);
        }
        odds("twelve", y.likely(0), y.likely(1), 1, 126126);
    }

    private static void judged() {
        promise = 27;
        DaysBag x = with(3, 1, 0, "can 0 s=0;pay 0 6;can 1 s=1;pay 1 2");
        x.worker(1, 0);
        x.worker(0, 0);
        x.worker(3, 2);
        due("empty", x.judged(0, 0), 0);
        due("empty", x.judged(0, 1), 0);
        for (int sort : new int[] {0, 1, 0, 1, 0}) {
            x.book(sort);
        }
        due("how many", x.judged(0, 0), 3);
        due("paid", x.judged(0, 1), 6);
        due("paid", x.judged(1, 1), 0);
        due("how many", x.judged(1, 0), 3);
        due("waiting", x.judged(2, 1), 0);
        x.stage(1, 1);
        due("paid", x.judged(0, 1), 8);
        due("judged(3, 0)", x.judged(3, 0), DaysBag.NONE);
        due("judged(-1, 0)", x.judged(-1, 0), DaysBag.NONE);
        due("judged(0, 2)", x.judged(0, 2), DaysBag.NONE);
        due("judged(0, -1)", x.judged(0, -1), DaysBag.NONE);
        due("nothing changes", x.told(30), 3);
        due("nothing changes", x.told(20), 0);
        due("nothing changes", x.told(1), 0);
        due("nothing changes", x.count(2), 5);
    }

    private static void other() {
        promise = 28;
        DaysBag x = new DaysBag();
        due("other(0, 5)", x.other(0, 5), 0);
        due("other(0, 1)", x.other(0, 1), 5);
        due("other(3, 9)", x.other(3, 9), DaysBag.NONE);
        due("other(-1, 0)", x.other(-1, 0), DaysBag.NONE);
        due("other(0, 6)", x.other(0, 6), DaysBag.BAD);
        due("other(0, -1)", x.other(0, -1), DaysBag.BAD);
        due("other(0, 0)", x.other(0, 0), 1);
        due("not the bag", x.told(2), 0);
    }

    private static void same() {
        promise = 29;
        DaysBag x = with(2, 2, 0, "");
        due("no book", x.same(), 0);
        x.book(0);
        due("from an empty one never", x.same(), 1);
        x.other(0, 1);
        due("from the other surely", x.same(), 2);
        x.other(1, 1);
        due("a half each", x.same(), 0);
        x.book(1);
        due("2 by 4 times 2 by 3 against 1 by 2", x.same(), 2);
        x.other(2, 1);
        due("against 1 by 6", x.same(), 1);
        x.book(2);
        due("never against 1 by 6", x.same(), 2);
        x.book(2);
        due("never both", x.same(), 0);
    }

    private static DaysBag acting() {
        DaysBag x = new DaysBag();
        for (int kind = 0; kind < 7; kind++) {
            x.worker(kind, kind + 2);
        }
        return x;
    }

    private static void act() {
        promise = 30;
        DaysBag x = acting();
        int[][] wants = {
            {10, 8, 16},
            {31, 28, 56},
            {12, -8, -16},
            {13, 8, (8 * 2) ^ 7},
            {34, 28, (27 + 4 - 6) * 2 + 10},
            {(10 + 5) ^ 5, -(((10 + 5) ^ 5) - 7), -(((10 + 5) ^ 5) - 7) * 2},
            {16, 16, 32 ^ 7}
        };
        for (int worker = 0; worker < 7; worker++) {
            for (int act = 0; act < 3; act++) {
                due("act(" + worker + ", " + act + ", 10)", x.act(worker, act, 10), wants[worker][act]);
            }
        }
        due("wrapping", x.act(1, 0, MAX), MAX * 3 + 1);
        due("no worker", x.act(7, 0, 5), 0);
        due("no trace then", x.count(4), 0);
        x.act(0, 0, 1);
        due("no worker", x.act(-1, 0, 5), 0);
        due("no trace then", x.trace(0), DaysBag.NONE);
        x.act(0, 0, 1);
        due("no act", x.act(1, 3, 5), 0);
        due("no trace then", x.count(4), 0);
        due("no act", x.act(1, -1, 5), 0);
    }

    private static void trace() {
        promise = 31;
        traced(0, 0, 1);
        traced(0, 1, 2, 1);
        traced(0, 2, 3, 2, 1);
        traced(1, 2, 3, 2, 11, 1);
        traced(2, 2, 3, 21, 2, 1);
        traced(3, 2, 31, 3, 2, 1);
        traced(4, 2, 41, 3, 2, 11, 1, 11, 1);
        traced(5, 0, 51, 1);
        traced(5, 2, 3, 21, 2, 51, 1);
        traced(6, 2, 31, 3, 61, 2, 1);
        DaysBag x = acting();
        x.act(4, 2, 1);
        x.act(0, 0, 1);
        due("the latest alone", x.trace(1), DaysBag.NONE);
        due("trace(-1)", x.trace(-1), DaysBag.NONE);
        due("trace(MIN)", x.trace(MIN), DaysBag.NONE);
        due("trace(20)", x.trace(20), DaysBag.NONE);
        due("trace(MAX)", x.trace(MAX), DaysBag.NONE);
    }

    private static void traced(int worker, int act, int... bodies) {
        DaysBag x = acting();
        x.act(worker, act, 3);
        due("bodies", x.count(4), bodies.length);
        for (int i = 0; i < bodies.length; i++) {
            due("trace(" + i + ") of " + worker + ", " + act, x.trace(i), bodies[i]);
        }
        due("behind the last", x.trace(bodies.length), DaysBag.NONE);
    }

    private static void as() {
        promise = 32;
        DaysBag x = acting();
        String[] under = {"0", "01", "02", "03", "014", "025", "036"};
        for (int worker = 0; worker < 7; worker++) {
            for (int kind = 0; kind < 7; kind++) {
                boolean is = under[worker].indexOf('0' + kind) >= 0;
                due("as(" + worker + ", " + kind + ")", x.as(worker, kind), is ? worker + 2 : -6);
            }
        }
        due("as(7, 0)", x.as(7, 0), DaysBag.NONE);
        due("as(-1, 0)", x.as(-1, 0), DaysBag.NONE);
        due("as(0, 7)", x.as(0, 7), DaysBag.NONE);
        due("as(0, -1)", x.as(0, -1), DaysBag.NONE);
    }

    private static void image() {
        promise = 33;
        DaysBag x = acting();
        due("image()", x.image(), 7);
        x.worker(0, 0);
        due("image()", x.image(), 8);
        due("the newest image", x.undo(), 8);
        due("none of it changes", new DaysBag().image(), 0);
    }

    private static void undo() {
        promise = 34;
        DaysBag x = with(3, 2, 1, "pay 0 5;cover 4;can 0 s=0");
        x.worker(6, 3);
        x.row(0, 1, 2);
        x.book(1);
        x.other(2, 4);
        x.feed('p');
        x.stage(1, 1);
        x.draw(0, 0);
        x.act(0, 0, 1);
        x.image();
        x.feed('a');
        read(x, "");
        read(x, "pay 0 9;cover 9");
        x.row(0, 1, 0);
        x.worker(1, 1);
        x.draw(1, 0);
        x.bag(1, 5);
        x.book(2);
        x.other(2, 0);
        x.stage(1, 2);
        x.act(0, 2, 1);
        due("undo()", x.undo(), 1);
        due("pay", x.told(10), 5);
        due("cover", x.told(0), 4);
        due("day", x.told(1), 1);
        due("bag", x.told(30), 2);
        due("bag", x.told(31), 2);
        due("stage", x.told(21), 1);
        due("stage", x.told(20), 0);
        due("workers", x.count(0), 1);
        due("valleys", x.count(1), 1);
        due("book", x.count(2), 1);
        due("tape", x.count(3), 1);
        due("the trace stays", x.count(4), 5);
        due("row", x.row(0, 1, 1), 2);
        due("other", x.other(2, 1), 4);
        due("the tape's sign", read(x, "ay 2 8"), 1);
        due("undo() again", x.undo(), 1);
        due("row", x.row(0, 1, 1), 2);
        due("other", x.other(2, 1), 4);
        due("pay", x.told(12), 1);
        due("none yet", new DaysBag().undo(), DaysBag.STATE);
    }

    private static void count() {
        promise = 35;
        DaysBag x = acting();
        read(x, "cover 1");
        read(x, "cover 2");
        x.book(0);
        x.feed(1);
        x.feed(1);
        x.feed(1);
        x.act(4, 2, 0);
        int[] wants = {7, 2, 1, 3, 7};
        for (int what = 0; what < 5; what++) {
            due("count(" + what + ")", x.count(what), wants[what]);
        }
        due("count(5)", x.count(5), DaysBag.NONE);
        due("count(-1)", x.count(-1), DaysBag.NONE);
        due("count(MIN)", x.count(MIN), DaysBag.NONE);
    }
}
