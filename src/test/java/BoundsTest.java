import java.util.function.IntToLongFunction;

/** Each sentence of the document that names a boundary of a number, a row or a bag, with a test of its own. */
public final class BoundsTest {
    private static final long NO = Long.MIN_VALUE;
    private static final int MIN = Integer.MIN_VALUE, MAX = Integer.MAX_VALUE;
    private static int wrong = 0;
    private static String sentence = "";

    public static void main(String[] args) {
        bagsAndDays();
        worksAndWorkers();
        kinds();
        oddsOfDays();
        whatToDo();
        booksAndBags();
        actsAndImages();
        System.out.println(wrong == 0 ? "the bounds hold" : wrong + " bounds do not hold");
        if (wrong != 0) {
            System.exit(1);
        }
    }

    private static void due(String call, long got, long want) {
        if (got != want) {
            wrong++;
            System.out.println("'" + sentence + "': " + call + " answered " + got + ", due is " + want);
        }
    }

    private static void odds(String call, long above, long below, long wantAbove, long wantBelow) {
        due(call + " above", above, wantAbove);
        due(call + " below", below, wantBelow);
    }

    /** The last number that is taken and the first that is refused, on each side. */
    private static void edges(String call, int least, int most, long refusal, IntToLongFunction ask) {
        for (int taken = least; taken <= most; taken++) {
            if (ask.applyAsLong(taken) == refusal) {
                wrong++;
                System.out.println("'" + sentence + "': " + call + " refuses " + taken);
            }
        }
        for (int refused : new int[] {least - 1, most + 1, MIN, MAX, MIN + 10, MAX - 10, least - 256, most + 256}) {
            due(call + " with " + refused, ask.applyAsLong(refused), refusal);
        }
    }

    private static DaysBag with(int a, int b, int c, String text) {
        DaysBag x = new DaysBag();
        x.bag(0, a);
        x.bag(1, b);
        x.bag(2, c);
        if (!text.isEmpty()) {
            due("valley() of '" + text + "'", read(x, text), 0);
        }
        return x;
    }

    private static int read(DaysBag x, String text) {
        for (int i = 0; i < text.length(); i++) {
            x.feed(text.charAt(i));
        }
        return x.valley();
    }

    /** With one worker of each kind, numbered as the kinds. */
    private static DaysBag staffed(int a, int b, int c, String text, int v) {
        DaysBag x = with(a, b, c, text);
        for (int kind = 0; kind < 7; kind++) {
            due("worker(" + kind + ", " + v + ")", x.worker(kind, v), kind);
        }
        return x;
    }

    /** On that DAY, with 5 days of sort 0 and a PLAIN worker. */
    private static DaysBag afterDays(int days) {
        DaysBag x = new DaysBag();
        x.worker(1, 0);
        for (int i = 0; i < days; i++) {
            if (i % 5 == 0) {
                x.bag(0, 5);
            }
            due("draw", x.draw(0, 0), 0);
        }
        x.bag(0, 5);
        return x;
    }

    // ---- bags, days

    private static void bagsAndDays() {
        sorts();
        sortsAsked();
        parts();
        bagAtFirst();
        bagOfFive();
        restTogether();
        dayAtFirst();
        dayAtMost();
        dayNotChanged();
        dayUndone();
        dayAsked();
        signs();
        toldWhat();
    }

    private static void sorts() {
        sentence = "NONE there is no such SORT (0, 1, 2)";
        DaysBag x = staffed(5, 5, 5, "", 0);
        edges("bag", 0, 2, DaysBag.NONE, s -> x.bag(s, 5));
        edges("row", 0, 2, DaysBag.NONE, s -> x.row(6, s, 3));
        edges("of", 10, 12, DaysBag.NONE, s -> x.of(0, s));
        edges("draw", 0, 2, -1001, s -> x.draw(0, s));
        edges("today", 0, 2, DaysBag.NONE, x::today);
        edges("book", 0, 2, DaysBag.NONE, s -> s == -1 ? DaysBag.NONE : x.book(s));
        edges("other", 0, 2, DaysBag.NONE, s -> x.other(s, 5));
    }

    private static void sortsAsked() {
        sentence = "NO: sort";
        DaysBag x = with(4, 4, 4, "");
        edges("next", 0, 2, NO, s -> x.next(s, 0));
        edges("run", 0, 2, NO, s -> x.run(s, 1, 0));
        edges("by", 0, 2, NO, s -> x.by(s, 1, 1, 0));
        edges("first", 0, 2, NO, s -> x.first(s, 0));
        edges("before", 0, 1, NO, s -> s == 2 ? NO : x.before(s, 2, 0));
        edges("before", 1, 2, NO, s -> s == 0 ? NO : x.before(0, s, 0));
        edges("before", 1, 2, NO, s -> s == 0 ? NO : x.before(s, 0, 1));
        edges("put", 0, 2, NO, s -> x.put(s, 0));
        edges("pass", 0, 2, NO, s -> x.pass(s, 0));
        edges("cover", 0, 2, NO, s -> x.cover(s, 1, 0));
        edges("right", 0, 2, NO, s -> x.right(s, 0));
        due("before, first none", x.before(-1, 0, 0), NO);
        due("before, first none", x.before(3, 0, 0), NO);
        due("before, second none", x.before(0, -1, 0), NO);
        due("before, second none", x.before(0, 3, 0), NO);
        due("before, both none", x.before(-1, 3, 0), NO);
    }

    private static void parts() {
        sentence = "part 0 above, 1 below the line. NO: part";
        DaysBag x = staffed(4, 4, 4, "can 0 s=0;cover 1", 0);
        edges("next", 0, 1, NO, p -> x.next(0, p));
        edges("run", 0, 1, NO, p -> x.run(0, 1, p));
        edges("by", 0, 1, NO, p -> x.by(0, 1, 1, p));
        edges("first", 0, 1, NO, p -> x.first(0, p));
        edges("before", 0, 1, NO, p -> x.before(0, 1, p));
        for (int what = 0; what < 3; what++) {
            int asked = what;
            edges("mean " + what, 0, 1, NO, p -> x.mean(1, asked, p));
        }
        edges("put", 0, 1, NO, p -> x.put(0, p));
        edges("pass", 0, 1, NO, p -> x.pass(0, p));
        edges("cover", 0, 1, NO, p -> x.cover(0, 1, p));
        edges("right", 0, 1, NO, p -> x.right(0, p));
        edges("likely", 0, 1, NO, x::likely);
    }

    private static void bagAtFirst() {
        sentence = "THE BAG has so many of each (0 at first)";
        DaysBag x = new DaysBag();
        for (int sort = 0; sort < 3; sort++) {
            due("told(" + (30 + sort) + ")", x.told(30 + sort), 0);
            due("bag(" + sort + ", 0)", x.bag(sort, 0), 0);
        }
    }

    private static void bagOfFive() {
        sentence = "THE BAG has so many of each (0 .. 5); BAD";
        for (int sort = 0; sort < 3; sort++) {
            int s = sort;
            DaysBag x = new DaysBag();
            edges("bag", 0, 5, DaysBag.BAD, n -> x.bag(s, n));
            due("the last one taken", x.told(30 + sort), 5);
            due("how many it had", x.bag(sort, 0), 5);
            due("how many it had", x.bag(sort, 5), 0);
            for (int other = 0; other < 3; other++) {
                due("told(" + (30 + other) + ")", x.told(30 + other), other == sort ? 5 : 0);
            }
        }
    }

    private static void restTogether() {
        sentence = "THE REST together";
        DaysBag x = new DaysBag();
        due("empty", x.told(2), 0);
        x.bag(2, 1);
        due("one", x.told(2), 1);
        x.bag(0, 5);
        x.bag(1, 5);
        x.bag(2, 5);
        due("full", x.told(2), 15);
        x.bag(1, 0);
        due("two sorts", x.told(2), 10);
    }

    private static void dayAtFirst() {
        sentence = "THE DAY: how many were drawn (0 at first)";
        DaysBag x = new DaysBag();
        due("told(1)", x.told(1), 0);
        x.worker(0, 0);
        x.bag(0, 2);
        due("none was drawn", x.told(1), 0);
        x.draw(0, 0);
        due("one was drawn", x.told(1), 1);
        x.draw(0, 0);
        due("two were drawn", x.told(1), 2);
        x.draw(0, 0);
        due("there was none of it", x.told(1), 2);
    }

    private static void dayAtMost() {
        sentence = "THE DAY (99 at most); STATE: it is DAY 99";
        DaysBag x = afterDays(97);
        due("DAY 97", x.draw(0, 0), 0);
        due("told(1)", x.told(1), 98);
        due("DAY 98", x.draw(0, 0), 0);
        due("told(1)", x.told(1), 99);
        due("DAY 99", x.draw(0, 0), -1002);
        due("told(1)", x.told(1), 99);
        due("THE BAG", x.told(30), 3);
        due("none of it, too", x.draw(0, 1), -1002);
        due("no such SORT first", x.draw(0, 3), -1001);
        due("no such WORKER first", x.draw(1, 0), -1001);
    }

    private static void dayNotChanged() {
        sentence = "THE DAY: how many were drawn";
        DaysBag x = with(2, 0, 0, "can 0 s=0");
        x.worker(1, 0);
        x.draw(0, 0);
        x.bag(0, 5);
        x.stage(0, 0);
        read(x, "cover 1");
        due("by draws alone", x.told(1), 1);
    }

    private static void dayUndone() {
        sentence = "THE DAY (99 at most), undone";
        DaysBag x = afterDays(98);
        x.image();
        due("DAY 98", x.draw(0, 0), 0);
        due("DAY 99", x.draw(0, 0), -1002);
        x.undo();
        due("THE DAY", x.told(1), 98);
        due("DAY 98 once more", x.draw(0, 0), 0);
        due("DAY 99 once more", x.draw(0, 0), -1002);
    }

    private static void dayAsked() {
        sentence = "draw: STATE: it is DAY 99 (no other call tells it)";
        DaysBag x = afterDays(99);
        x.bag(0, 1);
        read(x, "can 0 d=99;pay 0 6");
        x.stage(0, 1);
        x.worker(5, 0);
        x.book(0);
        due("draw", x.draw(1, 0), -1002);
        due("of", x.of(1, 10), 0);
        due("TODAY", x.today(0), 0);
        odds("NEXT", x.next(0, 0), x.next(0, 1), 1, 1);
        odds("MEAN", x.mean(1, 0, 0), x.mean(1, 0, 1), 6, 1);
        due("MOST", x.most(), 6);
        due("WHATEVER", x.whatever(), 1);
        due("JUDGED", x.judged(1, 0), 1);
        due("JUDGED", x.judged(1, 1), 6);
    }

    private static void signs() {
        sentence = "A sign (0 .. 127) comes behind THE TAPE's: how many it has. BAD";
        DaysBag x = new DaysBag();
        due("feed(0)", x.feed(0), 1);
        due("feed(127)", x.feed(127), 2);
        for (int sign : new int[] {-1, 128, 255, 256, MIN, MAX, 'c' + 256, 'c' - 256, 'c' + 65536}) {
            due("feed(" + sign + ")", x.feed(sign), DaysBag.BAD);
        }
        due("signs", x.count(3), 2);
        due("feed(1)", x.feed(1), 3);
    }

    private static void toldWhat() {
        sentence = "What 0 cover, 1 THE DAY, 2 THE REST, 10 and k, 20 and k, 30 and s. NONE";
        DaysBag x = new DaysBag();
        edges("told", 0, 2, DaysBag.NONE, x::told);
        for (int tens = 10; tens <= 30; tens += 10) {
            edges("told", tens, tens + 2, DaysBag.NONE, x::told);
        }
        due("told(40)", x.told(40), DaysBag.NONE);
    }

    // ---- works, workers

    private static void worksAndWorkers() {
        worksOfStage();
        stageAtFirst();
        stageTwoAtMost();
        nothingPaidByStage();
        stageDone();
        someCan();
        paysAtTwo();
        oneWorkADay();
        eightWorkers();
        kindsOfWorkers();
        numberV();
        workersAsked();
        rowNumbers();
        rowAtFirst();
        ofWhat();
        ofNoneOfIt();
        drawNoneOfIt();
    }

    private static void worksOfStage() {
        sentence = "WORKS 0, 1, 2. NONE";
        DaysBag x = new DaysBag();
        edges("stage", 0, 2, DaysBag.NONE, k -> x.stage(k, 1));
    }

    private static void stageAtFirst() {
        sentence = "each has a STAGE (0 at first)";
        DaysBag x = new DaysBag();
        for (int work = 0; work < 3; work++) {
            due("told(" + (20 + work) + ")", x.told(20 + work), 0);
            due("stage(" + work + ", 0)", x.stage(work, 0), 0);
        }
    }

    private static void stageTwoAtMost() {
        sentence = "The STAGE of a WORK becomes n (0 .. 2): what it was. BAD";
        for (int work = 0; work < 3; work++) {
            int k = work;
            DaysBag x = new DaysBag();
            edges("stage", 0, 2, DaysBag.BAD, n -> x.stage(k, n));
            due("the last one taken", x.stage(work, 0), 2);
            due("what it was", x.stage(work, 1), 0);
            due("what it was", x.stage(work, 2), 1);
            for (int other = 0; other < 3; other++) {
                due("told(" + (20 + other) + ")", x.told(20 + other), other == work ? 2 : 0);
            }
        }
    }

    private static void nothingPaidByStage() {
        sentence = "nothing is PAID";
        DaysBag x = staffed(1, 0, 0, "can 0 s=0;pay 0 9", 9);
        due("by stage()", x.stage(0, 2), 0);
        due("nor later", x.draw(1, 0), 0);
        due("nor in the mean", x.mean(5, 0, 0), 0);
    }

    private static void stageDone() {
        sentence = "One CAN be done on a day, if it is not done";
        DaysBag x = staffed(5, 0, 0, "can 0 s=0;pay 0 7;can 2 g=2", 9);
        x.row(6, 0, 0);
        due("STAGE 0", x.of(1, 10), 0);
        x.stage(0, 1);
        due("STAGE 1", x.of(1, 10), 0);
        x.stage(0, 2);
        x.stage(2, 2);
        for (int worker = 0; worker < 7; worker++) {
            due("STAGE 2, worker " + worker, x.of(worker, 10), -5);
            due("nothing is PAID", x.draw(worker % 3, 0), worker < 5 ? 0 : -1002);
        }
        due("it stays", x.told(20), 2);
        due("it stays", x.told(22), 2);
    }

    private static void someCan() {
        sentence = "E of some can of it holds";
        due("none of it", canOf("can 1 s=0"), -5);
        due("one, not", canOf("can 0 s=1"), -5);
        due("one", canOf("can 0 s=0"), 0);
        due("the first alone", canOf("can 0 s=0;can 0 s=1;can 0 s=2"), 0);
        due("the last alone", canOf("can 0 s=1;can 0 s=2;can 0 s=0"), 0);
        due("another WORK between", canOf("can 0 s=1;can 1 s=0;can 0 s=0"), 0);
        due("none of three", canOf("can 0 s=1;can 0 s=2;can 0 s=3"), -5);
    }

    private static int canOf(String text) {
        DaysBag x = with(1, 0, 0, text);
        x.stage(1, 2);
        x.worker(1, 0);
        return x.of(0, 10);
    }

    private static void paysAtTwo() {
        sentence = "as it becomes 2, it PAYS pay";
        for (int pay : new int[] {0, 1, 99}) {
            DaysBag x = with(3, 0, 0, "can 1 s=0;pay 1 " + pay);
            x.worker(1, 0);
            due("becomes 1", x.draw(0, 0), 0);
            due("STAGE", x.told(21), 1);
            due("becomes 2", x.draw(0, 0), pay);
            due("STAGE", x.told(21), 2);
            due("is 2", x.draw(0, 0), 0);
            due("STAGE", x.told(21), 2);
        }
    }

    private static void oneWorkADay() {
        sentence = "On a day one WORK at most is done";
        for (int kind = 1; kind < 7; kind++) {
            DaysBag x = staffed(1, 0, 0, "can 0 s=0;can 1 s=0;can 2 s=0;pay 0 5;pay 1 5;pay 2 5", 9);
            for (int work = 0; work < 3; work++) {
                x.stage(work, 1);
            }
            due("one pay, kind " + kind, x.draw(kind, 0), 5);
            due("STAGES together", x.told(20) + x.told(21) + x.told(22), 4);
        }
        DaysBag x = staffed(1, 0, 0, "can 0 s=0;can 1 s=0;can 2 s=0", 9);
        due("no pay by a WORKER", x.draw(0, 0), 0);
        due("STAGES together", x.told(20) + x.told(21) + x.told(22), 0);
    }

    private static void eightWorkers() {
        sentence = "WORKERS are numbered from 0 on, 8 at most; FULL";
        DaysBag x = new DaysBag();
        for (int i = 0; i < 8; i++) {
            due("WORKERS", x.count(0), i);
            due("the next is none yet", x.of(i, 0), DaysBag.NONE);
            due("worker()", x.worker(i % 7, i), i);
            due("its KIND", x.of(i, 0), i % 7);
            due("its v", x.of(i, 1), i);
        }
        due("the ninth", x.worker(0, 0), DaysBag.FULL);
        due("WORKERS", x.count(0), 8);
        due("no ninth", x.of(8, 0), DaysBag.NONE);
    }

    private static void kindsOfWorkers() {
        sentence = "each of a KIND: 0 .. 6; NONE: kind";
        DaysBag x = new DaysBag();
        edges("worker", 0, 6, DaysBag.NONE, kind -> x.worker(kind, 0));
        due("WORKERS", x.count(0), 7);
    }

    private static void numberV() {
        sentence = "a number v (0 .. 9); BAD: v";
        for (int kind = 0; kind < 7; kind++) {
            int k = kind;
            DaysBag x = new DaysBag();
            due("v 0", x.worker(kind, 0), 0);
            due("v 9", x.worker(kind, 9), 1);
            edges("worker", 0, 9, DaysBag.BAD, v -> new DaysBag().worker(k, v));
            due("v -1", x.worker(kind, -1), DaysBag.BAD);
            due("v 10", x.worker(kind, 10), DaysBag.BAD);
            due("WORKERS", x.count(0), 2);
            due("its v", x.of(0, 1), 0);
            due("its v", x.of(1, 1), 9);
        }
    }

    private static void workersAsked() {
        sentence = "NONE there is no such WORKER";
        for (int many : new int[] {0, 1, 8}) {
            DaysBag x = with(5, 5, 5, "");
            for (int i = 0; i < many; i++) {
                x.worker(6, 0);
            }
            edges("row", 0, many - 1, DaysBag.NONE, w -> x.row(w, 0, 3));
            edges("of", 0, many - 1, DaysBag.NONE, w -> x.of(w, 0));
            edges("mean", 0, many - 1, NO, w -> x.mean(w, 0, 0));
            edges("judged", 0, many - 1, DaysBag.NONE, w -> x.judged(w, 0));
            edges("as", 0, many - 1, DaysBag.NONE, w -> x.as(w, 0));
            DaysBag fresh = with(5, 5, 5, "");
            for (int i = 0; i < many; i++) {
                fresh.worker(6, 0);
            }
            edges("draw", 0, many - 1, -1001, w -> fresh.draw(w, w % 3));
        }
    }

    private static void rowNumbers() {
        sentence = "The ROW of a TOLD one tells n (0 .. 3) for a SORT: what it told. BAD";
        for (int sort = 0; sort < 3; sort++) {
            int s = sort;
            DaysBag x = new DaysBag();
            x.worker(6, 0);
            edges("row", 0, 3, DaysBag.BAD, n -> x.row(0, s, n));
            due("the last one taken", x.row(0, sort, 0), 3);
            due("what it told", x.row(0, sort, 1), 0);
            due("what it told", x.row(0, sort, 2), 1);
            due("what it told", x.row(0, sort, 2), 2);
            for (int other = 0; other < 3; other++) {
                due("for SORT " + other, x.row(0, other, 3), other == sort ? 2 : 3);
            }
        }
        sentence = "STATE: it has none";
        DaysBag x = staffed(0, 0, 0, "", 0);
        for (int worker = 0; worker < 6; worker++) {
            for (int n = 0; n < 4; n++) {
                due("row of kind " + worker, x.row(worker, 0, n), DaysBag.STATE);
            }
        }
    }

    private static void rowAtFirst() {
        sentence = "3: none; 3 at first";
        DaysBag x = with(1, 1, 1, "can 0 s<3;can 1 s<3;can 2 s<3");
        x.worker(6, 0);
        x.worker(6, 9);
        for (int sort = 0; sort < 3; sort++) {
            due("tells none, waits", x.of(0, 10 + sort), -5);
            due("tells none, as PLAIN", x.of(1, 10 + sort), 0);
            due("what it told", x.row(0, sort, 3), 3);
            due("still none", x.of(0, 10 + sort), -5);
            due("what it told", x.row(0, sort, 2 - sort), 3);
            due("tells a WORK", x.of(0, 10 + sort), 2 - sort);
        }
    }

    private static void ofWhat() {
        sentence = "Of a WORKER what 0 KIND, 1 v, 10 and s. NONE";
        DaysBag x = staffed(5, 5, 5, "", 0);
        edges("of", 0, 1, DaysBag.NONE, what -> x.of(3, what));
        edges("of", 10, 12, DaysBag.NONE, what -> x.of(3, what));
    }

    private static void ofNoneOfIt() {
        sentence = "-5: none, also if there is none of it";
        DaysBag x = staffed(0, 1, 0, "can 0 s<3", 9);
        for (int worker = 0; worker < 7; worker++) {
            due("none of SORT 0", x.of(worker, 10), -5);
            due("none of SORT 2", x.of(worker, 12), -5);
        }
        due("one of SORT 1", x.of(1, 11), 0);
        due("empty", staffed(0, 0, 0, "can 0 s<3", 9).of(1, 11), -5);
    }

    private static void drawNoneOfIt() {
        sentence = "STATE: there is none of that SORT";
        DaysBag x = staffed(1, 0, 0, "can 0 s<3", 0);
        due("the only one", x.draw(1, 0), 0);
        due("none behind it", x.draw(1, 0), -1002);
        due("none of another", x.draw(1, 1), -1002);
        due("STAGE", x.told(20), 1);
        due("THE DAY", x.told(1), 1);
        due("THE REST", x.told(2), 0);
    }

    // ---- kinds

    private static void kinds() {
        workerDoesNone();
        plainTheLeast();
        leftTheGreatest();
        waitingForV();
        sureOfStageOne();
        bestOfSeveral();
        toldElseWaiting();
    }

    private static void workerDoesNone() {
        sentence = "WORKER: none";
        DaysBag x = staffed(5, 5, 5, "can 0 s<3;can 1 s<3;can 2 s<3", 9);
        for (int sort = 0; sort < 3; sort++) {
            due("of", x.of(0, 10 + sort), -5);
        }
    }

    private static void plainTheLeast() {
        sentence = "PLAIN: the least that CAN be done";
        DaysBag x = staffed(5, 0, 0, "can 2 s=0;can 1 s=0;can 0 s=0;pay 2 99", 0);
        due("three can", x.of(1, 10), 0);
        x.stage(0, 2);
        due("two can", x.of(1, 10), 1);
        x.stage(1, 2);
        due("one can", x.of(1, 10), 2);
        x.stage(2, 2);
        due("none can", x.of(1, 10), -5);
    }

    private static void leftTheGreatest() {
        sentence = "LEFT: that with the greatest pay (of several the least)";
        due("all as great", left("pay 0 5;pay 1 5;pay 2 5"), 0);
        due("two as great", left("pay 0 4;pay 1 5;pay 2 5"), 1);
        due("two as great", left("pay 0 5;pay 1 4;pay 2 5"), 0);
        due("two as great", left("pay 0 5;pay 1 5;pay 2 4"), 0);
        due("one more", left("pay 0 98;pay 1 98;pay 2 99"), 2);
        due("all 0", left("pay 0 0;pay 1 0;pay 2 0"), 0);
        due("1 without", left("pay 0 0"), 1);
        due("the greatest is done", left("pay 0 1;pay 1 2;pay 2 3", 2), 1);
        due("two are done", left("pay 0 1;pay 1 2;pay 2 3", 1, 2), 0);
        due("all are done", left("pay 0 1;pay 1 2;pay 2 3", 0, 1, 2), -5);
    }

    private static int left(String pays, int... done) {
        DaysBag x = with(5, 0, 0, "can 0 s=0;can 1 s=0;can 2 s=0;" + pays);
        x.worker(2, 0);
        for (int work : done) {
            x.stage(work, 2);
        }
        return x.of(0, 10);
    }

    private static void waitingForV() {
        sentence = "WAITING: as PLAIN, if THE REST then is v or less; else none";
        for (int v = 0; v <= 9; v++) {
            for (int rest = 1; rest <= 15; rest++) {
                DaysBag x = with(Math.min(5, rest), Math.min(5, Math.max(0, rest - 5)), Math.max(0, rest - 10),
                    "can 2 s=0;can 1 s=0");
                x.worker(3, v);
                due("v " + v + ", THE REST then " + (rest - 1), x.of(0, 10), rest - 1 <= v ? 1 : -5);
            }
        }
        DaysBag x = with(3, 0, 0, "can 0 s=0;pay 0 8");
        x.worker(3, 1);
        due("2 left then", x.draw(0, 0), 0);
        due("STAGE", x.told(20), 0);
        due("1 left then", x.draw(0, 0), 0);
        due("STAGE", x.told(20), 1);
        due("0 left then", x.draw(0, 0), 8);
    }

    private static void sureOfStageOne() {
        sentence = "SURE: of those that CAN the least of STAGE 1; without one as PLAIN";
        int[][] rows = {
            {0, 0, 0, 0}, {0, 1, 0, 1}, {0, 0, 1, 2}, {0, 1, 1, 1}, {1, 1, 1, 0}, {1, 0, 0, 0}, {2, 0, 1, 2},
            {2, 0, 0, 1}, {2, 2, 0, 2}, {2, 2, 1, 2}, {0, 2, 2, 0}, {2, 2, 2, -5}, {2, 1, 0, 1}, {0, 2, 1, 2}
        };
        for (int[] row : rows) {
            DaysBag x = with(1, 0, 0, "can 0 s=0;can 1 s=0;can 2 s=0");
            for (int work = 0; work < 3; work++) {
                x.stage(work, row[work]);
            }
            x.worker(4, 0);
            due("STAGES " + row[0] + row[1] + row[2], x.of(0, 10), row[3]);
        }
        DaysBag x = with(1, 1, 0, "can 0 s<2;can 1 s=1");
        x.worker(4, 0);
        x.stage(1, 1);
        due("that of STAGE 1 can't", x.of(0, 10), 0);
        due("that of STAGE 1 can", x.of(0, 11), 1);
    }

    private static void bestOfSeveral() {
        sentence = "BEST: of several none, if that is one of these, else the least";
        // On the last day what pays is better than none; of two that pay as much the least.
        DaysBag x = staffed(1, 0, 0, "can 0 s=0;can 1 s=0;can 2 s=0;pay 0 5;pay 1 5;pay 2 5", 0);
        due("nothing can be PAID: none", x.of(5, 10), -5);
        due("TODAY", x.today(0), -5);
        x.stage(2, 1);
        due("one pays", x.of(5, 10), 2);
        x.stage(1, 1);
        due("two pay as much", x.of(5, 10), 1);
        x.stage(0, 1);
        due("three pay as much", x.of(5, 10), 0);
        due("TODAY", x.today(0), 0);
        read(x, "can 0 s=0;can 1 s=0;can 2 s=0;pay 0 5;pay 1 6;pay 2 6");
        due("two pay most", x.of(5, 10), 1);
        read(x, "can 0 s=0;can 1 s=0;can 2 s=0;pay 0 0;pay 1 0;pay 2 0");
        due("0 is PAID: none", x.of(5, 10), -5);
        due("0 is PAID: none", x.today(0), -5);
        // Two days are left and one is enough: none today is as good.
        DaysBag y = staffed(2, 0, 0, "can 0 s=0;pay 0 5", 0);
        y.stage(0, 1);
        due("tomorrow is as good", y.of(5, 10), -5);
        y.bag(0, 1);
        due("there is no tomorrow", y.of(5, 10), 0);
        y.bag(0, 2);
        y.stage(0, 0);
        due("both days are needed", y.of(5, 10), 0);
        y.bag(0, 3);
        due("two of three are needed", y.of(5, 10), -5);
        y.bag(0, 1);
        due("one is not enough", y.of(5, 10), -5);
    }

    private static void toldElseWaiting() {
        sentence = "TOLD: the WORK that its ROW tells, if that CAN be done; else as WAITING";
        DaysBag x = with(2, 0, 0, "can 1 s=0;can 2 s=0");
        x.worker(6, 0);
        x.worker(6, 1);
        for (int worker = 0; worker < 2; worker++) {
            int waiting = worker == 0 ? -5 : 1;
            due("tells none", x.of(worker, 10), waiting);
            x.row(worker, 0, 0);
            due("that has no can", x.of(worker, 10), waiting);
            x.row(worker, 0, 2);
            due("that can be done", x.of(worker, 10), 2);
            x.stage(2, 2);
            due("that is done", x.of(worker, 10), waiting);
            x.stage(2, 0);
            x.row(worker, 0, 3);
            due("tells none again", x.of(worker, 10), waiting);
        }
        x.row(0, 1, 2);
        due("told for another SORT", x.of(0, 10), -5);
        x.bag(0, 1);
        due("0 are left then", x.of(0, 10), 1);
    }

    // ---- odds

    private static void oddsOfDays() {
        nextOfEmpty();
        runNumbers();
        runOfFewer();
        byNumbers();
        byRest();
        byOrMore();
        firstCounted();
        firstNone();
        beforeNone();
        beforeOneSort();
        ordersOfBags();
        lowestTerms();
    }

    private static void nextOfEmpty() {
        sentence = "NEXT (0 by 1, if THE BAG is empty)";
        DaysBag x = new DaysBag();
        for (int sort = 0; sort < 3; sort++) {
            odds("next(" + sort + ")", x.next(sort, 0), x.next(sort, 1), 0, 1);
        }
        x.bag(1, 1);
        odds("the only day", x.next(1, 0), x.next(1, 1), 1, 1);
        odds("none of it", x.next(0, 0), x.next(0, 1), 0, 1);
        x.bag(1, 5);
        x.bag(0, 5);
        x.bag(2, 5);
        odds("full", x.next(2, 0), x.next(2, 1), 1, 3);
    }

    private static void runNumbers() {
        sentence = "RUN: that the next n days (1 .. 5) are all of it. NO";
        for (int part = 0; part < 2; part++) {
            int p = part;
            DaysBag x = with(5, 5, 5, "");
            edges("run, full", 1, 5, NO, n -> x.run(0, n, p));
            edges("run, empty", 1, 5, NO, n -> new DaysBag().run(0, n, p));
        }
        DaysBag x = with(5, 5, 5, "");
        odds("run(0, 1)", x.run(0, 1, 0), x.run(0, 1, 1), 1, 3);
        odds("run(0, 5)", x.run(0, 5, 0), x.run(0, 5, 1), 1, 3003);
    }

    private static void runOfFewer() {
        sentence = "RUN (0 by 1, if there are fewer)";
        DaysBag x = with(4, 1, 0, "");
        odds("just as many", x.run(0, 4, 0), x.run(0, 4, 1), 1, 5);
        odds("one fewer of it", x.run(0, 5, 0), x.run(0, 5, 1), 0, 1);
        odds("none of it", x.run(2, 1, 0), x.run(2, 1, 1), 0, 1);
        DaysBag y = with(3, 0, 0, "");
        odds("all of THE REST", y.run(0, 3, 0), y.run(0, 3, 1), 1, 1);
        odds("fewer in THE REST", y.run(0, 4, 0), y.run(0, 4, 1), 0, 1);
        DaysBag empty = new DaysBag();
        odds("empty", empty.run(0, 1, 0), empty.run(0, 1, 1), 0, 1);
        odds("empty", empty.run(0, 5, 0), empty.run(0, 5, 1), 0, 1);
    }

    private static void byNumbers() {
        sentence = "BY: of the next n days (1 .. 15) m (0 .. 5). NO";
        DaysBag x = with(5, 5, 5, "");
        for (int part = 0; part < 2; part++) {
            int p = part;
            edges("by n", 1, 15, NO, n -> x.by(0, n, 1, p));
            edges("by m", 0, 5, NO, m -> x.by(0, 15, m, p));
            edges("by m", 0, 5, NO, m -> x.by(0, 1, m, p));
        }
        odds("the most of both", x.by(2, 15, 5, 0), x.by(2, 15, 5, 1), 1, 1);
        odds("n 14", x.by(2, 14, 5, 0), x.by(2, 14, 5, 1), 2, 3);
        odds("the least of both", x.by(2, 1, 0, 0), x.by(2, 1, 0, 1), 1, 1);
    }

    private static void byRest() {
        sentence = "BY (n no more than THE REST: else NO)";
        for (int rest = 0; rest <= 15; rest++) {
            DaysBag x = with(Math.min(5, rest), Math.min(5, Math.max(0, rest - 5)), Math.max(0, rest - 10), "");
            for (int part = 0; part < 2; part++) {
                if (rest > 0) {
                    due("n as THE REST " + rest, x.by(0, rest, 1, part), 1);
                }
                due("n more than THE REST " + rest, x.by(0, rest + 1, 1, part), NO);
                due("n more than THE REST " + rest, x.by(0, rest + 1, 0, part), NO);
            }
        }
    }

    private static void byOrMore() {
        sentence = "BY: m or more are of it";
        DaysBag x = with(2, 2, 0, "");
        odds("0 or more", x.by(0, 2, 0, 0), x.by(0, 2, 0, 1), 1, 1);
        odds("1 or more", x.by(0, 2, 1, 0), x.by(0, 2, 1, 1), 5, 6);
        odds("2 or more", x.by(0, 2, 2, 0), x.by(0, 2, 2, 1), 1, 6);
        odds("3 or more", x.by(0, 2, 3, 0), x.by(0, 2, 3, 1), 0, 1);
        odds("more than n", x.by(0, 1, 2, 0), x.by(0, 1, 2, 1), 0, 1);
        odds("more than there are", x.by(0, 4, 3, 0), x.by(0, 4, 3, 1), 0, 1);
        odds("all that there are", x.by(0, 4, 2, 0), x.by(0, 4, 2, 1), 1, 1);
        odds("none of it, 1 or more", x.by(2, 4, 1, 0), x.by(2, 4, 1, 1), 0, 1);
        odds("none of it, 0 or more", x.by(2, 4, 0, 0), x.by(2, 4, 0, 1), 1, 1);
    }

    private static void firstCounted() {
        sentence = "FIRST: how many days it is to the first one of it, that one counted";
        DaysBag x = with(1, 0, 0, "");
        odds("it comes next", x.first(0, 0), x.first(0, 1), 1, 1);
        x.bag(1, 1);
        odds("one of two", x.first(0, 0), x.first(0, 1), 3, 2);
        x.bag(1, 5);
        x.bag(2, 5);
        odds("one of eleven", x.first(0, 0), x.first(0, 1), 6, 1);
        x.bag(0, 5);
        odds("five of fifteen", x.first(0, 0), x.first(0, 1), 8, 3);
        x.bag(1, 0);
        x.bag(2, 0);
        odds("all of it", x.first(0, 0), x.first(0, 1), 1, 1);
    }

    private static void firstNone() {
        sentence = "FIRST (NO: there is none)";
        DaysBag x = with(0, 5, 1, "");
        for (int part = 0; part < 2; part++) {
            due("none of it", x.first(0, part), NO);
            due("empty", new DaysBag().first(1, part), NO);
        }
        odds("one of it", x.first(2, 0), x.first(2, 1), 7, 2);
    }

    private static void beforeNone() {
        sentence = "BEFORE (NO: there is none of both)";
        DaysBag x = with(0, 0, 5, "");
        for (int part = 0; part < 2; part++) {
            due("none of both", x.before(0, 1, part), NO);
            due("none of both", x.before(1, 0, part), NO);
            due("empty", new DaysBag().before(0, 1, part), NO);
        }
        odds("none of the other", x.before(2, 0, 0), x.before(2, 0, 1), 1, 1);
        odds("none of the first", x.before(0, 2, 0), x.before(0, 2, 1), 0, 1);
        x.bag(0, 1);
        odds("one of the first", x.before(0, 1, 0), x.before(0, 1, 1), 1, 1);
        odds("one and five", x.before(0, 2, 0), x.before(0, 2, 1), 1, 6);
    }

    private static void beforeOneSort() {
        sentence = "BEFORE. NO: also of one SORT";
        DaysBag x = with(5, 5, 5, "");
        for (int sort = 0; sort < 3; sort++) {
            for (int other = 0; other < 3; other++) {
                for (int part = 0; part < 2; part++) {
                    long want = sort == other ? NO : part + 1;
                    due("before(" + sort + ", " + other + ", " + part + ")", x.before(sort, other, part), want);
                }
            }
        }
    }

    private static void ordersOfBags() {
        sentence = "ORDERS (1, if THE BAG is empty)";
        due("empty", new DaysBag().orders(), 1);
        due("one day", with(0, 0, 1, "").orders(), 1);
        due("five of one", with(5, 0, 0, "").orders(), 1);
        due("two days", with(1, 0, 1, "").orders(), 2);
        due("five and five", with(0, 5, 5, "").orders(), 252);
        due("full", with(5, 5, 5, "").orders(), 756756);
        DaysBag x = with(1, 1, 0, "");
        x.worker(0, 0);
        x.draw(0, 0);
        x.draw(0, 1);
        due("all are drawn", x.orders(), 1);
    }

    private static void lowestTerms() {
        sentence = "ODDS are fractions in lowest terms";
        DaysBag x = with(4, 4, 4, "can 0 s=0;pay 0 6;cover 12");
        x.worker(1, 0);
        odds("next", x.next(0, 0), x.next(0, 1), 1, 3);
        odds("before", x.before(0, 1, 0), x.before(0, 1, 1), 1, 2);
        odds("cover", x.cover(0, 1, 0), x.cover(0, 1, 1), 4, 1);
        odds("mean", x.mean(0, 0, 0), x.mean(0, 0, 1), 6, 1);
        odds("0", x.mean(0, 1, 0), x.mean(0, 1, 1), 0, 1);
        DaysBag y = with(1, 3, 0, "can 0 d=0&s=0;pay 0 6");
        y.stage(0, 1);
        odds("less than 0", y.put(1, 0), y.put(1, 1), -3, 10);
    }

    // ---- what to do

    private static void whatToDo() {
        meanWhat();
        meanOfEmpty();
        allOfEmpty();
        gapOfBest();
        todayNone();
        whateverOfEmpty();
        whateverStages();
        mostOfEmpty();
        mostAtMost();
        putFifth();
        putFirst();
        passNone();
        passPaid();
        coverNumbers();
        coverOfFewer();
        coverOfNone();
        rightNone();
        rightFirstDay();
    }

    private static void meanWhat() {
        sentence = "MEAN (what 0), ALL (1), GAP (2) of a WORKER. NO";
        DaysBag x = staffed(1, 1, 1, "can 0 s=0", 0);
        for (int worker = 0; worker < 7; worker++) {
            int w = worker;
            edges("mean", 0, 2, NO, what -> x.mean(w, what, 0));
            edges("mean", 0, 2, NO, what -> x.mean(w, what, 1));
        }
    }

    private static void meanOfEmpty() {
        sentence = "MEAN: from now on till THE BAG is empty (empty now)";
        DaysBag x = staffed(0, 0, 0, "can 0 s<3;pay 0 9", 9);
        x.stage(0, 1);
        for (int worker = 0; worker < 7; worker++) {
            odds("MEAN", x.mean(worker, 0, 0), x.mean(worker, 0, 1), 0, 1);
            odds("GAP", x.mean(worker, 2, 0), x.mean(worker, 2, 1), 0, 1);
        }
        x.bag(2, 1);
        odds("one day", x.mean(1, 0, 0), x.mean(1, 0, 1), 9, 1);
        x.draw(1, 2);
        odds("what was PAID counts no more", x.mean(1, 0, 0), x.mean(1, 0, 1), 0, 1);
    }

    private static void allOfEmpty() {
        sentence = "ALL: the odds that all WORKS are done then";
        DaysBag x = staffed(0, 0, 0, "", 0);
        for (int bits = 0; bits < 8; bits++) {
            for (int work = 0; work < 3; work++) {
                x.stage(work, (bits >> work & 1) == 1 ? 2 : 1);
            }
            odds("done " + bits, x.mean(0, 1, 0), x.mean(0, 1, 1), bits == 7 ? 1 : 0, 1);
        }
        x.bag(0, 5);
        odds("they stay done", x.mean(0, 1, 0), x.mean(0, 1, 1), 1, 1);
        DaysBag y = staffed(1, 1, 0, "can 0 s=0&d=0", 0);
        y.stage(0, 1);
        y.stage(1, 2);
        y.stage(2, 2);
        odds("in half of the orders", y.mean(1, 1, 0), y.mean(1, 1, 1), 1, 2);
    }

    private static void gapOfBest() {
        sentence = "GAP: MEAN of a BEST one less its own";
        DaysBag x = staffed(2, 2, 1, "can 0 s=0;can 1 s<2&d>1;pay 0 9;pay 1 20", 2);
        odds("of a BEST one", x.mean(5, 2, 0), x.mean(5, 2, 1), 0, 1);
        due("of one who does none", x.mean(0, 2, 0), x.mean(5, 0, 0));
        due("of one who does none", x.mean(0, 2, 1), x.mean(5, 0, 1));
    }

    private static void todayNone() {
        sentence = "TODAY; -5. STATE: there is none of it";
        DaysBag x = with(1, 0, 0, "can 0 s<3;pay 0 9");
        due("none of it", x.today(1), DaysBag.STATE);
        due("none of it", x.today(2), DaysBag.STATE);
        due("nothing to be PAID", x.today(0), -5);
        x.stage(0, 1);
        due("something to be PAID", x.today(0), 0);
        x.bag(0, 0);
        due("empty", x.today(0), DaysBag.STATE);
        due("no such SORT, empty", x.today(3), DaysBag.NONE);
    }

    private static void whateverOfEmpty() {
        sentence = "WHATEVER (those that have it now, too)";
        DaysBag x = new DaysBag();
        DaysBag full = with(5, 5, 5, "");
        for (int bits = 0; bits < 8; bits++) {
            for (int work = 0; work < 3; work++) {
                x.stage(work, (bits >> work & 1) == 1 ? 2 : 1);
                full.stage(work, (bits >> work & 1) == 1 ? 2 : 0);
            }
            due("empty", x.whatever(), bits);
            due("no VALLEY", full.whatever(), bits);
        }
    }

    private static void whateverStages() {
        sentence = "WHATEVER: have STAGE 2 when THE BAG is empty in whatever order days come";
        DaysBag x = with(1, 0, 0, "can 0 s=0;can 1 s=0;can 2 s=0");
        due("one day is one STAGE", x.whatever(), 0);
        x.stage(1, 1);
        due("from STAGE 1 on", x.whatever(), 2);
        x.bag(0, 2);
        due("two days, each alone", x.whatever(), 7);
        // 1100 is the one order of six in which work 2 has one day alone.
        due("all orders but one", with(2, 2, 0, "can 0 d<2;can 1 s=0|d=0;can 2 d=3|s=0&d<2").whatever(), 3);
        due("full", with(5, 5, 5, "can 0 l=0|l=1;can 1 l=0;can 2 d=14|d=13").whatever(), 5);
    }

    private static void mostOfEmpty() {
        sentence = "MOST: till THE BAG is empty (empty now)";
        DaysBag x = with(0, 0, 0, "can 0 s<3;pay 0 99");
        due("empty", x.most(), 0);
        x.stage(0, 1);
        due("empty", x.most(), 0);
        x.bag(2, 1);
        due("one day", x.most(), 99);
        x.stage(0, 2);
        due("done", x.most(), 0);
    }

    private static void mostAtMost() {
        sentence = "MOST: in some order of days, on each any WORK that CAN be done, or none";
        String all = "can 0 s=0;can 1 s=1;can 2 s=2;pay 0 99;pay 1 99;pay 2 99";
        due("full", with(5, 5, 5, all).most(), 297);
        due("two of each", with(2, 2, 2, all).most(), 297);
        due("one too few", with(2, 2, 1, all).most(), 198);
        due("in one order alone", with(1, 1, 0, "can 0 s=0&d=0;can 0 s=1&d=1;pay 0 7").most(), 7);
        due("none on a day", with(3, 0, 0, "can 0 g=0&d=1;can 0 g=1&d=2;can 1 d<2;pay 0 50").most(), 50);
    }

    private static void putFifth() {
        sentence = "PUT (5 are there: NO)";
        for (int sort = 0; sort < 3; sort++) {
            DaysBag x = with(5, 5, 5, "can 0 s<3;pay 0 6");
            for (int part = 0; part < 2; part++) {
                due("5 are there", x.put(sort, part), NO);
            }
            x.bag(sort, 4);
            odds("4 are there", x.put(sort, 0), x.put(sort, 1), 0, 1);
            due("THE BAG stays", x.told(30 + sort), 4);
        }
        DaysBag x = with(4, 5, 5, "can 0 d=0&s=0;pay 0 15");
        x.stage(0, 1);
        odds("4 of 14, 5 of 15", x.put(0, 0), x.put(0, 1), 5, 7);
        due("5 of another", x.put(1, 0), NO);
    }

    private static void putFirst() {
        sentence = "PUT: with one more day of a SORT in THE BAG (none now)";
        DaysBag x = with(0, 0, 0, "can 0 s=0;pay 0 6");
        x.stage(0, 1);
        odds("to an empty one", x.put(0, 0), x.put(0, 1), 6, 1);
        odds("a useless one", x.put(1, 0), x.put(1, 1), 0, 1);
        DaysBag late = with(0, 1, 0, "can 0 d=0&s=1;pay 0 6");
        late.stage(0, 1);
        odds("one that may come first", late.put(2, 0), late.put(2, 1), -3, 1);
    }

    private static void passNone() {
        sentence = "PASS (NO: there is none of it)";
        DaysBag x = with(0, 1, 0, "can 0 s=1;pay 0 6");
        x.stage(0, 1);
        for (int part = 0; part < 2; part++) {
            due("none of it", x.pass(0, part), NO);
            due("none of it", x.pass(2, part), NO);
            due("empty", new DaysBag().pass(0, part), NO);
        }
        odds("the only day", x.pass(1, 0), x.pass(1, 1), 0, 1);
    }

    private static void passPaid() {
        sentence = "PASS (what is PAID on it counts)";
        DaysBag x = with(1, 1, 0, "can 0 s=0&d=0;pay 0 6");
        x.stage(0, 1);
        odds("PAID on it", x.pass(0, 0), x.pass(0, 1), -3, 1);
        odds("not PAID on it", x.pass(1, 0), x.pass(1, 1), 3, 1);
    }

    private static void coverNumbers() {
        sentence = "COVER of a SORT for n days (1 .. 15). NO";
        DaysBag x = with(5, 5, 5, "cover 99");
        for (int part = 0; part < 2; part++) {
            int p = part;
            edges("cover, full", 1, 15, NO, n -> x.cover(0, n, p));
            edges("cover, empty", 1, 15, NO, n -> new DaysBag().cover(0, n, p));
        }
        odds("n 1", x.cover(0, 1, 0), x.cover(0, 1, 1), 33, 1);
        odds("n 10", x.cover(0, 10, 0), x.cover(0, 10, 1), 99 * 3002 / 33, 3003 / 33);
        odds("n 11", x.cover(0, 11, 0), x.cover(0, 11, 1), 99, 1);
        odds("n 15", x.cover(0, 15, 0), x.cover(0, 15, 1), 99, 1);
    }

    private static void coverOfFewer() {
        sentence = "COVER (all of THE REST, if that is fewer)";
        DaysBag x = with(1, 2, 0, "cover 9");
        odds("2 of 3", x.cover(0, 2, 0), x.cover(0, 2, 1), 6, 1);
        odds("3 of 3", x.cover(0, 3, 0), x.cover(0, 3, 1), 9, 1);
        odds("4 of 3", x.cover(0, 4, 0), x.cover(0, 4, 1), 9, 1);
        odds("15 of 3", x.cover(0, 15, 0), x.cover(0, 15, 1), 9, 1);
        odds("none of it", x.cover(2, 15, 0), x.cover(2, 15, 1), 0, 1);
        x.bag(0, 0);
        x.bag(1, 0);
        odds("empty", x.cover(0, 1, 0), x.cover(0, 1, 1), 0, 1);
        odds("empty", x.cover(0, 15, 0), x.cover(0, 15, 1), 0, 1);
    }

    private static void coverOfNone() {
        sentence = "COVER: cover times the odds (cover 0)";
        DaysBag bare = with(1, 0, 0, "");
        odds("no VALLEY", bare.cover(0, 1, 0), bare.cover(0, 1, 1), 0, 1);
        DaysBag x = with(1, 1, 0, "cover 0");
        odds("cover 0", x.cover(0, 1, 0), x.cover(0, 1, 1), 0, 1);
        read(x, "cover 1");
        odds("cover 1", x.cover(0, 1, 0), x.cover(0, 1, 1), 1, 2);
    }

    private static void rightNone() {
        sentence = "RIGHT (NO: there is none of it)";
        DaysBag x = with(0, 1, 0, "can 0 s=1;pay 0 6");
        x.stage(0, 1);
        for (int part = 0; part < 2; part++) {
            due("none of it", x.right(0, part), NO);
            due("none of it", x.right(2, part), NO);
            due("empty", new DaysBag().right(0, part), NO);
        }
        odds("the only day", x.right(1, 0), x.right(1, 1), 6, 1);
    }

    private static void rightFirstDay() {
        sentence = "RIGHT: if on the first day of it that comes no WORK could be done";
        DaysBag x = with(5, 0, 0, "can 0 d=0;pay 0 6");
        x.stage(0, 1);
        odds("the first day", x.right(0, 0), x.right(0, 1), 6, 1);
        read(x, "can 0 d=1;pay 0 6");
        odds("the second day", x.right(0, 0), x.right(0, 1), 0, 1);
        x.bag(0, 1);
        x.bag(1, 1);
        odds("the second day, if it is the first of it", x.right(0, 0), x.right(0, 1), 3, 1);
        odds("likewise of the other one", x.right(1, 0), x.right(1, 1), 3, 1);
    }

    // ---- books

    private static void booksAndBags() {
        bookTwelve();
        bookEmptied();
        likelyOfEmpty();
        likelyOfAll();
        judgedWhat();
        judgedOfEmpty();
        judgedFromTheFirst();
        judgedTwelve();
        otherNumbers();
        otherAtFirst();
        sameOfNothing();
        sameByALittle();
    }

    private static void bookTwelve() {
        sentence = "SORTS (12 at most); FULL: 12";
        DaysBag x = new DaysBag();
        for (int i = 1; i <= 12; i++) {
            due("book", x.book(i % 3), i);
            due("count(2)", x.count(2), i);
        }
        for (int sort = 0; sort < 3; sort++) {
            due("the 13th", x.book(sort), DaysBag.FULL);
        }
        due("count(2)", x.count(2), 12);
        due("-1 is no SORT", x.book(-1), 0);
        due("book again", x.book(2), 1);
    }

    private static void bookEmptied() {
        sentence = "how many there are (-1: it is empty then, 0)";
        DaysBag x = with(1, 1, 0, "");
        due("an empty one", x.book(-1), 0);
        due("count(2)", x.count(2), 0);
        x.book(0);
        x.book(0);
        due("two", x.book(-1), 0);
        due("count(2)", x.count(2), 0);
        odds("LIKELY", x.likely(0), x.likely(1), 1, 1);
        x.book(1);
        odds("only what came behind", x.likely(0), x.likely(1), 1, 2);
        due("-2 is none", x.book(-2), DaysBag.NONE);
        due("3 is none", x.book(3), DaysBag.NONE);
        due("MIN is none", x.book(MIN), DaysBag.NONE);
        due("MAX is none", x.book(MAX), DaysBag.NONE);
        due("count(2)", x.count(2), 1);
    }

    private static void likelyOfEmpty() {
        sentence = "LIKELY: the odds that just these come next (none)";
        DaysBag x = new DaysBag();
        odds("an empty BAG", x.likely(0), x.likely(1), 1, 1);
        x.bag(0, 5);
        odds("a BAG", x.likely(0), x.likely(1), 1, 1);
        x.bag(0, 0);
        x.book(0);
        odds("a SORT from an empty BAG", x.likely(0), x.likely(1), 0, 1);
    }

    private static void likelyOfAll() {
        sentence = "LIKELY: in their order";
        DaysBag x = with(2, 1, 0, "");
        x.book(0);
        x.book(1);
        odds("01", x.likely(0), x.likely(1), 1, 3);
        x.book(0);
        odds("all of THE BAG", x.likely(0), x.likely(1), 1, 3);
        x.book(0);
        odds("one more", x.likely(0), x.likely(1), 0, 1);
        DaysBag y = with(5, 5, 5, "");
        for (int i = 0; i < 12; i++) {
            y.book(i / 5);
        }
        odds("000001111122", y.likely(0), y.likely(1), 1, 756756);
        DaysBag z = with(5, 5, 5, "");
        for (int i = 0; i < 6; i++) {
            z.book(0);
        }
        odds("six of five", z.likely(0), z.likely(1), 0, 1);
    }

    private static void judgedWhat() {
        sentence = "JUDGED: what 0 how many can come, 1 what is PAID on these. NONE";
        DaysBag x = staffed(1, 1, 1, "", 0);
        for (int worker = 0; worker < 7; worker++) {
            int w = worker;
            edges("judged", 0, 1, DaysBag.NONE, what -> x.judged(w, what));
        }
    }

    private static void judgedOfEmpty() {
        sentence = "JUDGED: how many of these (none)";
        DaysBag x = staffed(1, 0, 0, "can 0 s=0;pay 0 9", 9);
        x.stage(0, 1);
        due("no BOOK", x.judged(1, 0), 0);
        due("no BOOK", x.judged(1, 1), 0);
        x.book(1);
        x.book(0);
        due("the first can't come", x.judged(1, 0), 0);
        due("the first can't come", x.judged(1, 1), 0);
        x.bag(0, 0);
        due("empty", x.judged(1, 0), 0);
        due("empty", x.judged(1, 1), 0);
    }

    private static void judgedFromTheFirst() {
        sentence = "JUDGED: how many of these, from the first on, THE BAG has";
        DaysBag x = staffed(1, 2, 0, "can 0 s=1;pay 0 9", 9);
        x.book(1);
        x.book(0);
        x.book(0);
        x.book(1);
        due("till the second 0", x.judged(1, 0), 2);
        due("till the second 0", x.judged(1, 1), 0);
        x.bag(0, 2);
        due("all", x.judged(1, 0), 4);
        due("all", x.judged(1, 1), 9);
        x.bag(1, 1);
        due("all but the last", x.judged(1, 0), 3);
        due("all but the last", x.judged(1, 1), 0);
    }

    private static void judgedTwelve() {
        sentence = "JUDGED: SORTS (12 at most)";
        DaysBag x = staffed(5, 5, 5, "can 0 d=11|d=10;pay 0 9", 9);
        for (int i = 0; i < 12; i++) {
            x.book(i % 3);
        }
        due("twelve", x.judged(1, 0), 12);
        due("the twelfth pays", x.judged(1, 1), 9);
        x.bag(2, 4);
        due("just as many", x.judged(1, 0), 12);
        x.bag(2, 3);
        due("one fewer", x.judged(1, 0), 11);
        due("the twelfth does not come", x.judged(1, 1), 0);
    }

    private static void otherNumbers() {
        sentence = "ANOTHER BAG has n days (0 .. 5) of a SORT: how many it had. BAD";
        for (int sort = 0; sort < 3; sort++) {
            int s = sort;
            DaysBag x = new DaysBag();
            edges("other", 0, 5, DaysBag.BAD, n -> x.other(s, n));
            due("the last one taken", x.other(sort, 0), 5);
            due("how many it had", x.other(sort, 5), 0);
            for (int other = 0; other < 3; other++) {
                due("of " + other, x.other(other, 0), other == sort ? 5 : 0);
            }
            due("not THE BAG", x.told(2), 0);
        }
    }

    private static void otherAtFirst() {
        sentence = "ANOTHER BAG (0 at first)";
        DaysBag x = with(5, 5, 5, "");
        for (int sort = 0; sort < 3; sort++) {
            due("other(" + sort + ", 0)", x.other(sort, 0), 0);
        }
    }

    private static void sameOfNothing() {
        sentence = "SAME: 0, if as LIKELY (no BOOK, or from neither)";
        DaysBag x = new DaysBag();
        due("all is empty", x.same(), 0);
        x.bag(0, 5);
        due("no BOOK", x.same(), 0);
        x.book(1);
        due("from neither", x.same(), 0);
        x.bag(1, 1);
        due("from THE BAG alone", x.same(), 1);
        x.bag(1, 0);
        x.other(1, 1);
        due("from the other alone", x.same(), 2);
        x.bag(0, 0);
        due("THE BAG is empty", x.same(), 2);
        x.bag(1, 5);
        due("surely from both", x.same(), 0);
    }

    private static void sameByALittle() {
        sentence = "SAME: 1, if more LIKELY from THE BAG, 2, if less";
        DaysBag x = with(5, 5, 4, "");
        for (int sort = 0; sort < 3; sort++) {
            x.other(sort, 5);
        }
        x.book(0);
        due("5 by 14 against 5 by 15", x.same(), 1);
        x.bag(2, 5);
        due("as LIKELY", x.same(), 0);
        x.other(2, 4);
        due("5 by 15 against 5 by 14", x.same(), 2);
        for (int i = 1; i < 12; i++) {
            x.book(i / 5);
        }
        due("1 by 756756 against 1 by 252252", x.same(), 2);
    }

    // ---- acts, the image

    private static void actsAndImages() {
        actNumbers();
        actNoTrace();
        actWrapping();
        traceNumbers();
        traceKept();
        asNumbers();
        asOthers();
        imageOfNothing();
        imageNewest();
        imageKept();
        undoneLimits();
        countNumbers();
        manyCalls();
    }

    private static void actNumbers() {
        sentence = "An ACT (0 sows, 1 cuts, 2 tells). 0: no such WORKER, act";
        DaysBag x = staffed(0, 0, 0, "", 1);
        for (int worker = 0; worker < 7; worker++) {
            int w = worker;
            edges("act", 0, 2, 0, act -> x.act(w, act, 100));
        }
        for (int act = 0; act < 3; act++) {
            int a = act;
            edges("act", 0, 6, 0, w -> x.act(w, a, 100));
        }
        edges("act", 0, -1, 0, w -> new DaysBag().act(w, 0, 100));
    }

    private static void actNoTrace() {
        sentence = "0, and no TRACE then: no such WORKER, act";
        int[][] refused = {{-1, 0}, {1, 0}, {0, -1}, {0, 3}, {MIN, 0}, {0, MAX}, {1, 3}};
        for (int[] call : refused) {
            DaysBag x = new DaysBag();
            x.worker(0, 0);
            due("an act", x.act(0, 2, 5), 10);
            due("bodies", x.count(4), 3);
            due("refused", x.act(call[0], call[1], 5), 0);
            due("no bodies", x.count(4), 0);
            due("no TRACE", x.trace(0), DaysBag.NONE);
            due("WORKERS", x.count(0), 1);
        }
    }

    private static void actWrapping() {
        sentence = "ints, wrapping";
        DaysBag x = staffed(0, 0, 0, "", 3);
        due("WORKER sows, i 0", x.act(0, 0, MAX), MAX);
        due("PLAIN sows", x.act(1, 0, MAX), MAX - 1);
        due("PLAIN sows", x.act(1, 0, MIN), MIN + 1);
        due("LEFT sows", x.act(2, 0, MAX), MIN + 1);
        due("LEFT cuts: less MIN is MIN", x.act(2, 1, MIN + 1), MIN);
        due("LEFT tells", x.act(2, 2, MIN + 1), 0);
        due("WORKER cuts", x.act(0, 1, MIN), MAX - 2);
        due("WORKER tells", x.act(0, 2, MIN), -6);
        due("WAITING tells", x.act(3, 2, MAX), -2 ^ 7);
        due("SURE tells", x.act(4, 2, MIN), (MAX * 3 + 4 - 3) * 2 + 10);
        due("BEST sows", x.act(5, 0, MAX), MIN + 4 ^ 5);
        due("TOLD cuts", x.act(6, 1, MAX), MIN + 5);
    }

    private static void traceNumbers() {
        sentence = "THE TRACE's i-th body. NONE";
        DaysBag x = staffed(0, 0, 0, "", 0);
        edges("trace, no act", 0, -1, DaysBag.NONE, x::trace);
        int[][] bodies = {{1, 2, 3}, {2, 3, 4}, {1, 3, 4}, {1, 2, 4}, {2, 3, 7}, {2, 4, 5}, {1, 3, 5}};
        for (int worker = 0; worker < 7; worker++) {
            for (int act = 0; act < 3; act++) {
                x.act(worker, act, 1);
                due("bodies", x.count(4), bodies[worker][act]);
                edges("trace", 0, bodies[worker][act] - 1, DaysBag.NONE, x::trace);
            }
        }
    }

    private static void traceKept() {
        sentence = "THE TRACE: the numbers of the bodies that ran in the latest act(); the first 20 are kept";
        DaysBag x = staffed(0, 0, 0, "", 0);
        x.act(4, 2, 1);
        int[] bodies = {41, 3, 2, 11, 1, 11, 1};
        for (int i = 0; i < 20; i++) {
            due("trace(" + i + ")", x.trace(i), i < bodies.length ? bodies[i] : DaysBag.NONE);
        }
        due("trace(20)", x.trace(20), DaysBag.NONE);
        x.act(0, 0, 1);
        due("of the latest", x.trace(0), 1);
        due("of the latest alone", x.trace(1), DaysBag.NONE);
        due("of the latest alone", x.count(4), 1);
    }

    private static void asNumbers() {
        sentence = "A KIND k (0 .. 6). NONE: k";
        DaysBag x = staffed(0, 0, 0, "", 7);
        for (int worker = 0; worker < 7; worker++) {
            int w = worker;
            edges("as", 0, 6, DaysBag.NONE, k -> x.as(w, k));
        }
    }

    private static void asOthers() {
        sentence = "-6: it is of another KIND";
        String[] under = {"0", "01", "02", "03", "014", "025", "036"};
        for (int v : new int[] {0, 9}) {
            DaysBag x = staffed(0, 0, 0, "", v);
            for (int worker = 0; worker < 7; worker++) {
                for (int k = 0; k < 7; k++) {
                    boolean is = under[worker].indexOf('0' + k) >= 0;
                    due("as(" + worker + ", " + k + ")", x.as(worker, k), is ? v : -6);
                }
            }
        }
    }

    private static void imageOfNothing() {
        sentence = "undo: STATE: there is none";
        DaysBag x = new DaysBag();
        due("none yet", x.undo(), DaysBag.STATE);
        x.bag(0, 3);
        x.worker(0, 0);
        due("none yet", x.undo(), DaysBag.STATE);
        due("it changes nothing", x.told(30), 3);
        due("it changes nothing", x.count(0), 1);
        DaysBag y = new DaysBag();
        due("of a new object", y.image(), 0);
        y.bag(0, 3);
        y.worker(0, 0);
        due("back to it", y.undo(), 0);
        due("THE BAG", y.told(30), 0);
        due("WORKERS", y.count(0), 0);
        due("no WORKER", y.of(0, 0), DaysBag.NONE);
    }

    private static void imageNewest() {
        sentence = "THE IMAGE is taken: how many WORKERS there are";
        DaysBag x = new DaysBag();
        for (int i = 0; i <= 8; i++) {
            due("image()", x.image(), i);
            due("worker()", x.worker(0, 0), i < 8 ? i : DaysBag.FULL);
        }
        due("the newest one", x.undo(), 8);
        x.bag(0, 1);
        x.image();
        x.bag(0, 2);
        x.image();
        x.bag(0, 3);
        x.undo();
        due("the newest one", x.told(30), 2);
    }

    private static void imageKept() {
        sentence = "All is as THE IMAGE (again)";
        DaysBag x = with(2, 0, 0, "can 0 s=0;pay 0 5");
        x.worker(6, 0);
        x.row(0, 0, 0);
        x.image();
        for (int i = 0; i < 3; i++) {
            x.draw(0, 0);
            due("PAID", x.draw(0, 0), 5);
            x.row(0, 0, 3);
            due("undo()", x.undo(), 1);
            due("THE BAG", x.told(30), 2);
            due("STAGE", x.told(20), 0);
            due("THE DAY", x.told(1), 0);
        }
        due("undo() of what is so", x.undo(), 1);
    }

    private static void undoneLimits() {
        sentence = "All is as THE IMAGE (what was full has room again)";
        DaysBag x = new DaysBag();
        read(x, "cover 9");
        x.feed('c');
        x.book(1);
        x.worker(2, 3);
        x.image();
        for (int i = 0; i < 4; i++) {
            read(x, i == 0 ? "over 8" : "cover 8");
        }
        for (int i = 0; i < 100; i++) {
            x.feed(65);
        }
        for (int i = 0; i < 11; i++) {
            x.book(0);
        }
        for (int i = 0; i < 7; i++) {
            x.worker(6, 0);
        }
        due("valley()", x.valley(), DaysBag.FULL);
        due("feed()", x.feed(65), DaysBag.FULL);
        due("book()", x.book(0), DaysBag.FULL);
        due("worker()", x.worker(0, 0), DaysBag.FULL);
        due("undo()", x.undo(), 1);
        due("cover", x.told(0), 9);
        due("signs", x.count(3), 1);
        due("worker()", x.worker(5, 4), 1);
        due("its KIND", x.of(1, 0), 5);
        due("book()", x.book(0), 2);
        due("valley() of THE TAPE", read(x, "over 77"), 1);
        due("cover", x.told(0), 77);
    }

    private static void countNumbers() {
        sentence = "count: 0 .. 4. NONE";
        DaysBag x = new DaysBag();
        edges("count", 0, 4, DaysBag.NONE, x::count);
        for (int what = 0; what < 5; what++) {
            due("count(" + what + ")", x.count(what), 0);
        }
    }

    private static void manyCalls() {
        sentence = "An object is used for at most 512 calls";
        DaysBag x = new DaysBag();
        x.worker(5, 0);
        int calls = 1;
        for (; calls < 509; calls++) {
            due("bag", x.bag(calls % 3, calls % 6), calls < 4 ? 0 : (calls - 3) % 6);
        }
        due("call 510", x.bag(0, 5), 507 % 6);
        due("call 511", x.act(0, 0, 7), 7);
        due("call 512", x.count(4), 2);
    }
}
