import java.util.ArrayList;
import java.util.List;
import java.util.function.Supplier;
import java.util.function.ToLongFunction;

/**
 * Refused calls: what they answer, which refusal comes first, and that they change nothing. Each call is made on
 * one of two objects that are alike; then both are asked all that can be asked, and must answer alike.
 */
public final class RefusalsTest {
    private static final long NO = Long.MIN_VALUE;
    private static final int NONE = -1, BAD = -2, STATE = -3, FULL = -4;
    private static final int MIN = Integer.MIN_VALUE, MAX = Integer.MAX_VALUE;
    private static final int[] NO_SORTS = {-1, 3, MIN, MAX}, NO_PARTS = {-1, 2, MIN, MAX};
    private static int wrong = 0;
    private static String promise = "";

    public static void main(String[] args) {
        bagsAndValleys();
        workersAndDays();
        odds();
        whatToDo();
        books();
        actsAndImages();
        asking();
        System.out.println(wrong == 0 ? "refused calls change nothing" : wrong + " refusals are not as told");
        if (wrong != 0) {
            System.exit(1);
        }
    }

    // ---- objects that are alike

    private static void feed(DaysBag x, String text) {
        for (int i = 0; i < text.length(); i++) {
            x.feed(text.charAt(i));
        }
    }

    /** Something of all that there is: 3, 2 and no days, 7 workers, an image, a trace, half a tape. */
    private static DaysBag rich() {
        DaysBag x = plain();
        x.act(4, 2, 5);
        return x;
    }

    /** As rich(), but without a TRACE. */
    private static DaysBag plain() {
        DaysBag x = new DaysBag();
        feed(x, "can 0 s=0;can 1 s<2&d>1;can 2 l<3;pay 0 9;pay 1 20;cover 30");
        x.valley();
        for (int kind = 0; kind < 7; kind++) {
            x.worker(kind, 9 - kind);
        }
        x.bag(0, 4);
        x.bag(1, 3);
        x.bag(2, 1);
        x.book(2);
        x.row(6, 1, 2);
        x.other(2, 1);
        feed(x, "cover 4");
        x.image();
        x.draw(1, 0);
        x.draw(0, 1);
        x.draw(0, 2);
        x.stage(1, 1);
        x.book(-1);
        x.book(0);
        x.book(1);
        x.row(6, 0, 1);
        x.other(0, 2);
        x.other(1, 5);
        feed(x, "1;pay 2 7");
        return x;
    }

    private static DaysBag fullTape() {
        DaysBag x = rich();
        x.valley();
        feed(x, "can 0 s=10|s=10|s=10" + "|s=0".repeat(20));
        return x;
    }

    private static DaysBag fullValleys(String tape) {
        DaysBag x = rich();
        x.valley();
        for (int i = 0; i < 3; i++) {
            feed(x, "can 0 s=1;cover 6" + i);
            x.valley();
        }
        feed(x, tape);
        return x;
    }

    private static DaysBag fullStaff() {
        DaysBag x = rich();
        x.worker(6, 5);
        return x;
    }

    private static DaysBag fullBook() {
        DaysBag x = rich();
        for (int i = 0; i < 10; i++) {
            x.book(i % 2);
        }
        return x;
    }

    private static DaysBag fullBag() {
        DaysBag x = rich();
        for (int sort = 0; sort < 3; sort++) {
            x.bag(sort, 5);
        }
        return x;
    }

    private static DaysBag emptyBag() {
        DaysBag x = rich();
        for (int sort = 0; sort < 3; sort++) {
            x.bag(sort, 0);
        }
        return x;
    }

    private static DaysBag lastDay() {
        DaysBag x = rich();
        for (int day = 3; day < 99; day++) {
            if ((day - 3) % 5 == 0) {
                x.bag(0, 5);
            }
            x.draw(0, 0);
        }
        x.bag(0, 2);
        return x;
    }

    // ---- all that can be asked

    private static List<Long> look(DaysBag x) {
        List<Long> seen = new ArrayList<>();
        for (int what : new int[] {0, 1, 2, 10, 11, 12, 20, 21, 22, 30, 31, 32}) {
            seen.add((long) x.told(what));
        }
        for (int i = 0; i < 8; i++) {
            seen.add((long) x.count(i));
            seen.add((long) x.trace(i));
            seen.add((long) x.of(i, 0));
            seen.add((long) x.of(i, 1));
            seen.add((long) x.as(i, 3));
            seen.add((long) x.judged(i, 1));
            seen.add(x.mean(i, 0, 0));
        }
        for (int sort = 0; sort < 3; sort++) {
            seen.add(x.next(sort, 0));
            seen.add(x.first(sort, 1));
            seen.add((long) x.today(sort));
            seen.add(x.put(sort, 0));
            seen.add(x.pass(sort, 0));
            seen.add(x.cover(sort, 2, 0));
            seen.add(x.right(sort, 0));
        }
        seen.add(x.orders());
        seen.add((long) x.whatever());
        seen.add((long) x.most());
        seen.add(x.likely(0));
        seen.add(x.likely(1));
        seen.add((long) x.same());
        open(x, seen);
        return seen;
    }

    /** What is seen by a change alone: ROWS, ANOTHER BAG, the BOOK's SORTS, THE TAPE's signs. */
    private static void open(DaysBag x, List<Long> seen) {
        for (int sort = 0; sort < 3; sort++) {
            seen.add((long) x.row(6, sort, 0));
            seen.add((long) x.row(7, sort, 0));
            seen.add((long) x.other(sort, 0));
        }
        for (int sort = 0; sort < 3; sort++) {
            for (int others = 0; others < 3; others++) {
                x.bag(others, 5);
            }
            for (int n = 0; n < 5; n++) {
                x.bag(sort, n);
                seen.add((long) x.judged(0, 0));
            }
        }
        seen.add((long) x.valley());
        seen.add((long) x.told(0));
        seen.add((long) x.told(10));
        seen.add((long) x.told(12));
        seen.add((long) x.of(1, 10));
    }

    private static List<Long> lookBack(DaysBag x) {
        long undone = x.undo();
        List<Long> seen = look(x);
        seen.add(undone);
        return seen;
    }

    private static void unlike(String call, List<Long> touched, List<Long> left) {
        for (int i = 0; i < left.size(); i++) {
            if (!touched.get(i).equals(left.get(i))) {
                wrong++;
                System.out.println(promise + ": " + call + " changed answer " + i + " from " + left.get(i) + " to "
                    + touched.get(i));
                return;
            }
        }
    }

    private static void same(String call, Supplier<DaysBag> touched, Supplier<DaysBag> left,
            ToLongFunction<DaysBag> made) {
        DaysBag one = touched.get();
        made.applyAsLong(one);
        unlike(call, look(one), look(left.get()));
        DaysBag back = touched.get();
        made.applyAsLong(back);
        unlike(call + ", undone", lookBack(back), lookBack(left.get()));
    }

    private static void refused(String call, Supplier<DaysBag> alike, long want, ToLongFunction<DaysBag> made) {
        long got = made.applyAsLong(alike.get());
        if (got != want) {
            wrong++;
            System.out.println(promise + ": " + call + " answered " + got + ", due is " + want);
        }
        same(call, alike, alike, made);
    }

    /** An empty object too: there no number but the refused one may be wrong. */
    private static void refusedAlways(String call, long want, ToLongFunction<DaysBag> made) {
        refused(call, RefusalsTest::rich, want, made);
        refused(call + ", new", DaysBag::new, want, made);
    }

    // ---- bags, valleys

    private static void bagsAndValleys() {
        promise = "bag: NONE; BAD";
        for (int sort : NO_SORTS) {
            refusedAlways("bag(" + sort + ", 2)", NONE, x -> x.bag(sort, 2));
            refusedAlways("bag(" + sort + ", 6)", NONE, x -> x.bag(sort, 6));
            refusedAlways("bag(" + sort + ", -1)", NONE, x -> x.bag(sort, -1));
        }
        for (int n : new int[] {-1, 6, MIN, MAX}) {
            for (int sort = 0; sort < 3; sort++) {
                int s = sort;
                refusedAlways("bag(" + s + ", " + n + ")", BAD, x -> x.bag(s, n));
            }
        }
        promise = "feed: BAD; FULL";
        for (int sign : new int[] {-1, 128, MIN, MAX}) {
            refusedAlways("feed(" + sign + ")", BAD, x -> x.feed(sign));
            refused("feed(" + sign + "), full", RefusalsTest::fullTape, BAD, x -> x.feed(sign));
        }
        for (int sign : new int[] {0, 48, 127}) {
            refused("feed(" + sign + "), full", RefusalsTest::fullTape, FULL, x -> x.feed(sign));
        }
        promise = "valley: FULL (THE TAPE stays)";
        for (String tape : new String[] {"cover 1", "", "can", "x"}) {
            refused("valley() of '" + tape + "'", () -> fullValleys(tape), FULL, DaysBag::valley);
        }
        promise = "told: NONE";
        for (int what : new int[] {-1, 3, 9, 13, 19, 23, 29, 33, MIN, MAX}) {
            refusedAlways("told(" + what + ")", NONE, x -> x.told(what));
        }
        promise = "stage: NONE; BAD";
        for (int work : NO_SORTS) {
            refusedAlways("stage(" + work + ", 2)", NONE, x -> x.stage(work, 2));
            refusedAlways("stage(" + work + ", 3)", NONE, x -> x.stage(work, 3));
            refusedAlways("stage(" + work + ", -1)", NONE, x -> x.stage(work, -1));
        }
        for (int n : new int[] {-1, 3, MIN, MAX}) {
            for (int work = 0; work < 3; work++) {
                int k = work;
                refusedAlways("stage(" + k + ", " + n + ")", BAD, x -> x.stage(k, n));
            }
        }
    }

    // ---- workers, days

    private static void workersAndDays() {
        promise = "worker: NONE: kind; BAD: v; FULL";
        for (int kind : new int[] {-1, 7, MIN, MAX}) {
            refusedAlways("worker(" + kind + ", 0)", NONE, x -> x.worker(kind, 0));
            refusedAlways("worker(" + kind + ", 10)", NONE, x -> x.worker(kind, 10));
            refused("worker(" + kind + ", 0), full", RefusalsTest::fullStaff, NONE, x -> x.worker(kind, 0));
            refused("worker(" + kind + ", -1), full", RefusalsTest::fullStaff, NONE, x -> x.worker(kind, -1));
        }
        for (int v : new int[] {-1, 10, MIN, MAX}) {
            refusedAlways("worker(0, " + v + ")", BAD, x -> x.worker(0, v));
            refusedAlways("worker(6, " + v + ")", BAD, x -> x.worker(6, v));
            refused("worker(6, " + v + "), full", RefusalsTest::fullStaff, BAD, x -> x.worker(6, v));
        }
        for (int kind = 0; kind < 7; kind++) {
            int k = kind;
            refused("worker(" + k + ", 0), full", RefusalsTest::fullStaff, FULL, x -> x.worker(k, 0));
        }
        rows();
        promise = "of: NONE";
        for (int worker : new int[] {-1, 7, MIN, MAX}) {
            refused("of(" + worker + ", 0)", RefusalsTest::rich, NONE, x -> x.of(worker, 0));
            refused("of(" + worker + ", 10)", RefusalsTest::rich, NONE, x -> x.of(worker, 10));
            refused("of(" + worker + ", 2)", RefusalsTest::rich, NONE, x -> x.of(worker, 2));
        }
        for (int what : new int[] {-1, 2, 9, 13, MIN, MAX}) {
            refusedAlways("of(0, " + what + ")", NONE, x -> x.of(0, what));
        }
        draws();
    }

    private static void rows() {
        promise = "row: NONE; BAD; STATE: it has none";
        for (int worker : new int[] {-1, 7, MIN, MAX}) {
            refused("row(" + worker + ", 0, 0)", RefusalsTest::rich, NONE, x -> x.row(worker, 0, 0));
            refused("row(" + worker + ", 0, 4)", RefusalsTest::rich, NONE, x -> x.row(worker, 0, 4));
            refused("row(" + worker + ", 3, 4)", RefusalsTest::rich, NONE, x -> x.row(worker, 3, 4));
        }
        refused("row(0, 0, 0), new", DaysBag::new, NONE, x -> x.row(0, 0, 0));
        for (int sort : NO_SORTS) {
            refused("row(6, " + sort + ", 0)", RefusalsTest::rich, NONE, x -> x.row(6, sort, 0));
            refused("row(6, " + sort + ", 4)", RefusalsTest::rich, NONE, x -> x.row(6, sort, 4));
            refused("row(3, " + sort + ", 0)", RefusalsTest::rich, NONE, x -> x.row(3, sort, 0));
            refused("row(3, " + sort + ", 4)", RefusalsTest::rich, NONE, x -> x.row(3, sort, 4));
        }
        for (int n : new int[] {-1, 4, MIN, MAX}) {
            refused("row(6, 0, " + n + ")", RefusalsTest::rich, BAD, x -> x.row(6, 0, n));
            refused("row(3, 0, " + n + ")", RefusalsTest::rich, BAD, x -> x.row(3, 0, n));
        }
        for (int worker = 0; worker < 6; worker++) {
            int w = worker;
            refused("row(" + w + ", 0, 0)", RefusalsTest::rich, STATE, x -> x.row(w, 0, 0));
        }
    }

    private static void draws() {
        promise = "draw: -1001: NONE; -1002: STATE";
        for (int worker : new int[] {-1, 7, MIN, MAX}) {
            refused("draw(" + worker + ", 0)", RefusalsTest::rich, -1001, x -> x.draw(worker, 0));
            refused("draw(" + worker + ", 2)", RefusalsTest::rich, -1001, x -> x.draw(worker, 2));
            refused("draw(" + worker + ", 0), last", RefusalsTest::lastDay, -1001, x -> x.draw(worker, 0));
        }
        for (int sort : NO_SORTS) {
            refused("draw(1, " + sort + ")", RefusalsTest::rich, -1001, x -> x.draw(1, sort));
            refused("draw(1, " + sort + "), last", RefusalsTest::lastDay, -1001, x -> x.draw(1, sort));
            refused("draw(9, " + sort + ")", RefusalsTest::rich, -1001, x -> x.draw(9, sort));
        }
        for (int worker = 0; worker < 7; worker++) {
            int w = worker;
            refused("draw(" + w + ", 2), none of it", RefusalsTest::rich, -1002, x -> x.draw(w, 2));
            refused("draw(" + w + ", 0), last", RefusalsTest::lastDay, -1002, x -> x.draw(w, 0));
            refused("draw(" + w + ", 0), empty", RefusalsTest::emptyBag, -1002, x -> x.draw(w, 0));
        }
        refused("draw(0, 0), new", DaysBag::new, -1001, x -> x.draw(0, 0));
    }

    // ---- odds

    private static void odds() {
        promise = "next, run, by, first, before: NO";
        for (int sort : NO_SORTS) {
            refusedAlways("next(" + sort + ", 0)", NO, x -> x.next(sort, 0));
            refusedAlways("run(" + sort + ", 1, 0)", NO, x -> x.run(sort, 1, 0));
            refusedAlways("by(" + sort + ", 1, 1, 0)", NO, x -> x.by(sort, 1, 1, 0));
            refusedAlways("first(" + sort + ", 0)", NO, x -> x.first(sort, 0));
            refusedAlways("before(" + sort + ", 0, 0)", NO, x -> x.before(sort, 0, 0));
            refusedAlways("before(0, " + sort + ", 0)", NO, x -> x.before(0, sort, 0));
            refusedAlways("before(" + sort + ", " + sort + ", 0)", NO, x -> x.before(sort, sort, 0));
        }
        for (int part : NO_PARTS) {
            refusedAlways("next(0, " + part + ")", NO, x -> x.next(0, part));
            refusedAlways("run(0, 1, " + part + ")", NO, x -> x.run(0, 1, part));
            refusedAlways("by(0, 1, 1, " + part + ")", NO, x -> x.by(0, 1, 1, part));
            refusedAlways("first(0, " + part + ")", NO, x -> x.first(0, part));
            refusedAlways("before(0, 1, " + part + ")", NO, x -> x.before(0, 1, part));
        }
        for (int n : new int[] {-1, 0, 16, MIN, MAX}) {
            refusedAlways("run(0, " + n + ", 0)", NO, x -> x.run(0, n, 0));
            refusedAlways("by(0, " + n + ", 0, 0)", NO, x -> x.by(0, n, 0, 0));
        }
        for (int m : new int[] {-1, 6, MIN, MAX}) {
            refusedAlways("run(0, 6, 0)", NO, x -> x.run(0, 6, 0));
            refusedAlways("by(0, 1, " + m + ", 0)", NO, x -> x.by(0, 1, m, 0));
        }
        refused("by(0, 6, 0, 0)", RefusalsTest::rich, NO, x -> x.by(0, 6, 0, 0));
        refused("first(2, 0)", RefusalsTest::rich, NO, x -> x.first(2, 0));
        refused("before(0, 1, 0)", RefusalsTest::emptyBag, NO, x -> x.before(0, 1, 0));
        refused("before(0, 0, 0)", RefusalsTest::rich, NO, x -> x.before(0, 0, 0));
    }

    // ---- what to do

    private static void whatToDo() {
        promise = "mean: NO";
        for (int worker : new int[] {-1, 7, MIN, MAX}) {
            refused("mean(" + worker + ", 0, 0)", RefusalsTest::rich, NO, x -> x.mean(worker, 0, 0));
        }
        for (int what : new int[] {-1, 3, MIN, MAX}) {
            refusedAlways("mean(5, " + what + ", 0)", NO, x -> x.mean(5, what, 0));
        }
        for (int part : NO_PARTS) {
            refusedAlways("mean(5, 2, " + part + ")", NO, x -> x.mean(5, 2, part));
        }
        refused("mean(0, 0, 0), new", DaysBag::new, NO, x -> x.mean(0, 0, 0));
        promise = "today: NONE; STATE: there is none of it";
        for (int sort : NO_SORTS) {
            refusedAlways("today(" + sort + ")", NONE, x -> x.today(sort));
        }
        refused("today(2)", RefusalsTest::rich, STATE, x -> x.today(2));
        refused("today(0), new", DaysBag::new, STATE, x -> x.today(0));
        promise = "put, pass, cover, right: NO";
        for (int sort : NO_SORTS) {
            refusedAlways("put(" + sort + ", 0)", NO, x -> x.put(sort, 0));
            refusedAlways("pass(" + sort + ", 0)", NO, x -> x.pass(sort, 0));
            refusedAlways("cover(" + sort + ", 1, 0)", NO, x -> x.cover(sort, 1, 0));
            refusedAlways("right(" + sort + ", 0)", NO, x -> x.right(sort, 0));
        }
        for (int part : NO_PARTS) {
            refusedAlways("put(0, " + part + ")", NO, x -> x.put(0, part));
            refusedAlways("pass(0, " + part + ")", NO, x -> x.pass(0, part));
            refusedAlways("cover(0, 1, " + part + ")", NO, x -> x.cover(0, 1, part));
            refusedAlways("right(0, " + part + ")", NO, x -> x.right(0, part));
        }
        for (int n : new int[] {-1, 0, 16, MIN, MAX}) {
            refusedAlways("cover(0, " + n + ", 0)", NO, x -> x.cover(0, n, 0));
        }
        for (int sort = 0; sort < 3; sort++) {
            int s = sort;
            refused("put(" + s + ", 0), full", RefusalsTest::fullBag, NO, x -> x.put(s, 0));
            refused("pass(" + s + ", 0), empty", RefusalsTest::emptyBag, NO, x -> x.pass(s, 0));
            refused("right(" + s + ", 0), empty", RefusalsTest::emptyBag, NO, x -> x.right(s, 0));
        }
        refused("pass(2, 0)", RefusalsTest::rich, NO, x -> x.pass(2, 0));
        refused("right(2, 0)", RefusalsTest::rich, NO, x -> x.right(2, 0));
    }

    // ---- books

    private static void books() {
        promise = "book: NONE; FULL: 12";
        for (int sort : new int[] {-2, 3, MIN, MAX}) {
            refusedAlways("book(" + sort + ")", NONE, x -> x.book(sort));
            refused("book(" + sort + "), full", RefusalsTest::fullBook, NONE, x -> x.book(sort));
        }
        for (int sort = 0; sort < 3; sort++) {
            int s = sort;
            refused("book(" + s + "), full", RefusalsTest::fullBook, FULL, x -> x.book(s));
        }
        promise = "likely: NO: part";
        for (int part : NO_PARTS) {
            refusedAlways("likely(" + part + ")", NO, x -> x.likely(part));
        }
        promise = "judged: NONE";
        for (int worker : new int[] {-1, 7, MIN, MAX}) {
            refused("judged(" + worker + ", 0)", RefusalsTest::rich, NONE, x -> x.judged(worker, 0));
        }
        for (int what : new int[] {-1, 2, MIN, MAX}) {
            refusedAlways("judged(0, " + what + ")", NONE, x -> x.judged(0, what));
        }
        refused("judged(0, 0), new", DaysBag::new, NONE, x -> x.judged(0, 0));
        promise = "other: NONE; BAD";
        for (int sort : NO_SORTS) {
            refusedAlways("other(" + sort + ", 2)", NONE, x -> x.other(sort, 2));
            refusedAlways("other(" + sort + ", 6)", NONE, x -> x.other(sort, 6));
            refusedAlways("other(" + sort + ", -1)", NONE, x -> x.other(sort, -1));
        }
        for (int n : new int[] {-1, 6, MIN, MAX}) {
            for (int sort = 0; sort < 3; sort++) {
                int s = sort;
                refusedAlways("other(" + s + ", " + n + ")", BAD, x -> x.other(s, n));
            }
        }
    }

    // ---- acts, the image

    private static void actsAndImages() {
        promise = "act: 0, and no TRACE then";
        for (int worker : new int[] {-1, 7, MIN, MAX}) {
            same("act(" + worker + ", 0, 1)", RefusalsTest::rich, RefusalsTest::plain, x -> x.act(worker, 0, 1));
        }
        for (int act : new int[] {-1, 3, MIN, MAX}) {
            same("act(1, " + act + ", 1)", RefusalsTest::rich, RefusalsTest::plain, x -> x.act(1, act, 1));
        }
        refused("act(0, 0, 1), new", DaysBag::new, 0, x -> x.act(0, 0, 1));
        promise = "trace: NONE";
        for (int i : new int[] {-1, 7, 20, 21, MIN, MAX}) {
            refusedAlways("trace(" + i + ")", NONE, x -> x.trace(i));
        }
        promise = "as: NONE: worker, k; -6";
        for (int worker : new int[] {-1, 7, MIN, MAX}) {
            refused("as(" + worker + ", 0)", RefusalsTest::rich, NONE, x -> x.as(worker, 0));
            refused("as(" + worker + ", 6)", RefusalsTest::rich, NONE, x -> x.as(worker, 6));
        }
        for (int k : new int[] {-1, 7, MIN, MAX}) {
            refusedAlways("as(0, " + k + ")", NONE, x -> x.as(0, k));
        }
        refused("as(0, 6)", RefusalsTest::rich, -6, x -> x.as(0, 6));
        promise = "undo: STATE: there is none";
        refused("undo(), new", DaysBag::new, STATE, DaysBag::undo);
        refused("undo(), no image", RefusalsTest::noImage, STATE, DaysBag::undo);
        promise = "count: NONE";
        for (int what : new int[] {-1, 5, MIN, MAX}) {
            refusedAlways("count(" + what + ")", NONE, x -> x.count(what));
        }
    }

    private static DaysBag noImage() {
        DaysBag x = new DaysBag();
        feed(x, "can 0 s=0;pay 0 9");
        x.valley();
        x.worker(1, 0);
        x.bag(0, 3);
        x.draw(0, 0);
        x.book(0);
        x.other(1, 2);
        x.act(0, 2, 5);
        feed(x, "cover 4");
        return x;
    }

    // ---- asked, not refused

    private static void asking() {
        promise = "All that follows is asked, and changes nothing";
        asked("told", x -> x.told(30));
        asked("next", x -> x.next(0, 0));
        asked("run", x -> x.run(0, 2, 0));
        asked("by", x -> x.by(0, 2, 1, 0));
        asked("first", x -> x.first(0, 0));
        asked("before", x -> x.before(0, 1, 0));
        asked("orders", DaysBag::orders);
        for (int worker = 0; worker < 7; worker++) {
            int w = worker;
            asked("mean", x -> x.mean(w, 0, 0));
            asked("all", x -> x.mean(w, 1, 0));
            asked("gap", x -> x.mean(w, 2, 0));
            asked("judged", x -> x.judged(w, 1));
            asked("of", x -> x.of(w, 10));
            asked("as", x -> x.as(w, 0));
        }
        for (int sort = 0; sort < 3; sort++) {
            int s = sort;
            asked("today", x -> x.today(s));
            asked("put", x -> x.put(s, 0));
            asked("pass", x -> x.pass(s, 0));
            asked("right", x -> x.right(s, 0));
            asked("cover", x -> x.cover(s, 3, 0));
        }
        asked("whatever", DaysBag::whatever);
        asked("most", DaysBag::most);
        asked("likely", x -> x.likely(0));
        asked("same", DaysBag::same);
        asked("trace", x -> x.trace(0));
        asked("count", x -> x.count(0));
        promise = "undo: all is as THE IMAGE, which stays";
        same("undo() twice", RefusalsTest::rich, RefusalsTest::undone, x -> x.undo() + x.undo());
        promise = "image: it changes nothing else";
        DaysBag imaged = rich();
        imaged.image();
        unlike("image()", look(imaged), look(rich()));
        promise = "act: it changes THE TRACE alone";
        same("act()", RefusalsTest::plain, RefusalsTest::rich, x -> x.act(4, 2, 5));
    }

    private static DaysBag undone() {
        DaysBag x = rich();
        x.undo();
        return x;
    }

    private static void asked(String call, ToLongFunction<DaysBag> made) {
        same(call + ", rich", RefusalsTest::rich, RefusalsTest::rich, made);
        same(call + ", empty", RefusalsTest::emptyBag, RefusalsTest::emptyBag, made);
        same(call + ", last", RefusalsTest::lastDay, RefusalsTest::lastDay, made);
    }
}
