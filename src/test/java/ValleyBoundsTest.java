/** Each sentence of the document that names a boundary of a VALLEY's text, with a test of its own. */
public final class ValleyBoundsTest {
    private static final String DIGITS = "0123456789", FACTOR = "sglrd!(", TEST = "sglrd";
    private static int wrong = 0;
    private static String sentence = "";

    public static void main(String[] args) {
        emptyTape();
        hundredBytes();
        hundredAgain();
        tenClauses();
        semicolonBetween();
        words();
        digitOfWork();
        oneBlank();
        numberOfPay();
        numberOfCover();
        numberOfTest();
        testSigns();
        conditions();
        fiveOpen();
        bracketClosed();
        notEnded();
        firstFault();
        endsTooEarly();
        numbersOfValleys();
        faultTakesNoNumber();
        fullValleys();
        newestHolds();
        withoutValley();
        payWithout();
        lastHolds();
        sortOfDay();
        stageOfWork();
        restThen();
        leftOfSortThen();
        whichDay();
        strength();
        System.out.println(wrong == 0 ? "the bounds of valleys hold" : wrong + " bounds of valleys do not hold");
        if (wrong != 0) {
            System.exit(1);
        }
    }

    private static void due(String call, long got, long want) {
        if (got != want) {
            wrong++;
            System.out.println("'" + sentence + "': " + call + " answered " + got + ", due is " + want);
        }
    }

    private static int read(DaysBag x, String text) {
        for (int i = 0; i < text.length(); i++) {
            due("feed of '" + text + "' at " + i, x.feed(text.charAt(i)), i + 1);
        }
        return x.valley();
    }

    private static void sound(String text) {
        due("valley() of '" + text + "'", read(new DaysBag(), text), 0);
    }

    private static void fault(String text, int place) {
        due("valley() of '" + text + "'", read(new DaysBag(), text), -10 - place);
    }

    /** Of all 128 bytes just these may come behind the text. */
    private static void goesOn(String text, String with) {
        for (char sign = 0; sign < 128; sign++) {
            int got = read(new DaysBag(), text + sign);
            boolean went = got >= 0 || got == -10 - (text.length() + 1);
            boolean stopped = got == -10 - text.length();
            if (with.indexOf(sign) >= 0 ? !went : !stopped) {
                wrong++;
                System.out.println("'" + sentence + "': '" + text + "' and byte " + (int) sign + " answered " + got);
            }
        }
    }

    private static String times(String clause, int n) {
        return (clause + ";").repeat(n - 1) + clause;
    }

    private static DaysBag with(int a, int b, int c, String text) {
        DaysBag x = new DaysBag();
        x.bag(0, a);
        x.bag(1, b);
        x.bag(2, c);
        due("valley() of '" + text + "'", read(x, text), 0);
        return x;
    }

    private static void emptyTape() {
        sentence = "FAULT: the size, if it ends too early (of an empty tape)";
        fault("", 0);
        DaysBag x = new DaysBag();
        read(x, "cover 7");
        due("valley() of nothing", x.valley(), -10);
        due("the one that held holds", x.told(0), 7);
        due("VALLEYS", x.count(1), 1);
    }

    private static void hundredBytes() {
        sentence = "THE TAPE (bytes, 100 at most)";
        String most = "can 0 s=10|s=10|s=10" + "|s=0".repeat(20);
        due("bytes", most.length(), 100);
        sound(most);
        sound("can 0 s=10|s=10" + "|s=0".repeat(21));
        fault(most.substring(0, 96) + "|s=!", 99);
        fault(most.substring(0, 96) + "|s==", 99);
        fault(most.substring(0, 96) + "||!!", 97);
        fault(most.substring(0, 96) + "|s=;", 99);
        fault(most.substring(0, 96) + "|s=", 99);
        // The 100 are THE TAPE's, not the text's: what needs a byte more ends too early.
        fault("can 0 s=10|s=10" + "|s=0".repeat(20) + "&s=1;", 100);
        fault("can 0 s=10|s=10" + "|s=0".repeat(20) + "|s=1&", 100);
        DaysBag full = new DaysBag();
        for (int i = 0; i < 100; i++) {
            due("feed", full.feed(most.charAt(i)), i + 1);
        }
        due("the 101st", full.feed('0'), DaysBag.FULL);
        due("the 101st", full.feed(0), DaysBag.FULL);
        due("the 101st", full.feed(127), DaysBag.FULL);
        due("signs", full.count(3), 100);
        due("its 100 bytes are a VALLEY", full.valley(), 0);
        due("THE TAPE is empty then", full.count(3), 0);
        due("and takes signs again", full.feed('c'), 1);
    }

    private static void hundredAgain() {
        sentence = "THE TAPE, which is empty then";
        String long_ = "can 2 s=10|s=10|s=11" + "|s=1".repeat(20);
        DaysBag x = new DaysBag();
        x.bag(0, 1);
        x.bag(1, 1);
        x.worker(1, 0);
        for (int i = 0; i < 2; i++) {
            due("100 bytes", read(x, long_), i);
            due("can", x.of(0, 11), 2);
            due("can", x.of(0, 10), -5);
            due("a FAULT at their end", read(x, long_.substring(0, 99) + "x"), -109);
        }
        due("a short one behind long ones", read(x, "can 1 s=0&!s=1"), 2);
        due("can", x.of(0, 10), 1);
        due("can", x.of(0, 11), -5);
        due("no cover", x.told(0), 0);
    }

    private static void tenClauses() {
        sentence = "CLAUSES, 10 at most";
        for (String clause : new String[] {"pay 0 1", "cover 1", "can 0 s=0"}) {
            sound(clause);
            sound(times(clause, 9));
            sound(times(clause, 10));
            int ten = times(clause, 10).length();
            if (ten < 99) {
                fault(times(clause, 10) + ";", ten);
                fault(times(clause, 10) + ";p", ten);
            }
            fault(times(clause, 10) + "+", ten);
        }
        fault(times("pay 0 1", 11), 79);
        goesOn(times("pay 0 1", 9), DIGITS + ";");
        goesOn(times("pay 0 1", 10), DIGITS);
        goesOn(times("pay 0 0", 10), "");
        goesOn(times("can 0 s=0", 9), "|&;");
        goesOn(times("can 0 s=0", 10), "|&");
        goesOn(times("pay 0 0", 9) + ";cover 10", "");
        DaysBag x = with(1, 0, 0, times("can 0 s=9", 9) + ";can 2 s=0");
        x.worker(1, 0);
        due("the tenth can", x.of(0, 10), 2);
        due("the tenth pay", with(0, 0, 0, times("pay 1 7", 9) + ";pay 1 99").told(11), 99);
        due("the tenth cover", with(0, 0, 0, times("pay 1 7", 9) + ";cover 8").told(0), 8);
    }

    private static void semicolonBetween() {
        sentence = "with ; between";
        fault(";", 0);
        fault(";pay 0 1", 0);
        fault("pay 0 1;", 8);
        fault("pay 0 1;;", 8);
        fault("pay 0 1;;pay 0 1", 8);
        fault("pay 0 1; pay 0 1", 8);
        fault("pay 0 1 ;pay 0 1", 7);
        fault("pay 0 1pay 0 1", 7);
        fault("pay 0 1,pay 0 1", 7);
        fault("can 0 s=0;", 10);
        fault("cover 5;", 8);
        goesOn("", "cp");
        goesOn("cover 0;", "cp");
        goesOn("pay 0 0;", "cp");
        goesOn("can 0 s=0;", "cp");
    }

    private static void words() {
        sentence = "can k E; pay k n; cover n";
        goesOn("c", "ao");
        goesOn("ca", "n");
        goesOn("p", "a");
        goesOn("pa", "y");
        goesOn("co", "v");
        goesOn("cov", "e");
        goesOn("cove", "r");
        goesOn("cover 1;c", "ao");
        goesOn("cover 1;p", "a");
    }

    private static void digitOfWork() {
        sentence = "k a digit 0 .. 2";
        goesOn("can ", "012");
        goesOn("pay ", "012");
        for (int k = 0; k < 3; k++) {
            DaysBag x = with(1, 0, 0, "can " + k + " s=0;pay " + k + " 7");
            x.worker(1, 0);
            due("the WORK of can " + k, x.of(0, 10), k);
            for (int other = 0; other < 3; other++) {
                due("pay of " + other, x.told(10 + other), other == k ? 7 : 1);
            }
        }
    }

    private static void oneBlank() {
        sentence = "one blank ahead of each part behind the word";
        goesOn("can", " ");
        goesOn("can 0", " ");
        goesOn("pay", " ");
        goesOn("pay 0", " ");
        goesOn("cover", " ");
        fault("can  0 s=0", 4);
        fault("can 0  s=0", 6);
        fault("pay  0 1", 4);
        fault("pay 0  1", 6);
        fault("cover  1", 6);
        fault(" can 0 s=0", 0);
        fault("can 0 s =0", 7);
        fault("can 0 s= 0", 8);
        fault("can 0 s=0 |s=1", 9);
        fault("can 0 s=0| s=1", 10);
        fault("can 0 ( s=0)", 7);
        fault("can 0 ! s=0", 7);
        fault("pay 0 1 ", 7);
        fault("cover 1 ", 7);
    }

    private static void numberOfPay() {
        sentence = "n 1 or 2 digits, no 0 ahead of another (of pay)";
        goesOn("pay 0 ", DIGITS);
        goesOn("pay 0 0", ";");
        goesOn("pay 0 1", DIGITS + ";");
        goesOn("pay 0 9", DIGITS + ";");
        goesOn("pay 0 10", ";");
        goesOn("pay 0 99", ";");
        for (int n : new int[] {0, 1, 9, 10, 90, 99}) {
            due("pay", with(0, 0, 0, "pay 2 " + n).told(12), n);
        }
    }

    private static void numberOfCover() {
        sentence = "n 1 or 2 digits, no 0 ahead of another (of cover)";
        goesOn("cover ", DIGITS);
        goesOn("cover 0", ";");
        goesOn("cover 1", DIGITS + ";");
        goesOn("cover 9", DIGITS + ";");
        goesOn("cover 10", ";");
        goesOn("cover 99", ";");
        for (int n : new int[] {0, 1, 9, 10, 90, 99}) {
            due("cover", with(0, 0, 0, "cover " + n).told(0), n);
        }
    }

    private static void numberOfTest() {
        sentence = "a number likewise";
        for (char sign : TEST.toCharArray()) {
            for (char relation : "<=>".toCharArray()) {
                String head = "can 1 " + sign + relation;
                goesOn(head, DIGITS);
                goesOn(head + "0", "|&;");
                goesOn(head + "1", DIGITS + "|&;");
                goesOn(head + "10", "|&;");
                goesOn(head + "99", "|&;");
            }
        }
    }

    private static void testSigns() {
        sentence = "a TEST: s or g or l or r or d, one of < = >";
        goesOn("can 0 ", FACTOR);
        for (char sign : TEST.toCharArray()) {
            goesOn("can 0 " + sign, "<=>");
        }
        fault("can 0 s<=1", 8);
        fault("can 0 s==1", 8);
        fault("can 0 ss=1", 7);
        fault("can 0 1=s", 6);
        fault("can 0 S=1", 6);
    }

    private static void conditions() {
        sentence = "E: T, or T|E. T: F, or F&T. F: !F, (E), or a TEST";
        goesOn("can 0 s=0|", FACTOR);
        goesOn("can 0 s=0&", FACTOR);
        goesOn("can 0 !", FACTOR);
        goesOn("can 0 (", FACTOR);
        goesOn("can 0 (s=0|", FACTOR);
        goesOn("can 0 (s=0&", FACTOR);
        goesOn("can 0 !s=0", "|&;");
        goesOn("can 0 (s=0", "|&)");
        goesOn("can 0 (!s=0", "|&)");
        goesOn("can 0 (s=1", DIGITS + "|&)");
        goesOn("can 0 (s=0)", "|&;");
        goesOn("can 0 !(s=0)", "|&;");
        goesOn("can 0 ((s=0)", "|&)");
        goesOn("can 0 s=0|g=0&d=0", "|&;");
        goesOn("can 0 s=0&g=0|d=0", "|&;");
    }

    private static void fiveOpen() {
        sentence = "At most 5 of ! and ( are open";
        String[] fives = {"!!!!!", "(((((", "!(!(!", "(!(!(", "!!(((", "(((!!", "((((!", "!((((", "!!!!(", "(!!!!"};
        for (String five : fives) {
            String closed = five.replace("!", "").replace('(', ')');
            sound("can 0 " + five + "s=0" + closed);
            goesOn("can 0 " + five.substring(0, 4), FACTOR);
            goesOn("can 0 " + five, TEST);
            fault("can 0 " + five + "!s=0" + closed, 11);
            fault("can 0 " + five + "(s=0)" + closed, 11);
            goesOn("can 0 s=0|" + five, TEST);
            goesOn("can 0 s=0&" + five, TEST);
        }
        goesOn("can 0 (((((s=0", "|&)");
        goesOn("can 0 (((((s=0|", TEST);
        goesOn("can 0 (((((s=0&", TEST);
    }

    private static void bracketClosed() {
        sentence = "a ( till its )";
        goesOn("can 0 (((((s=0)", "|&)");
        goesOn("can 0 (((((s=0)&", FACTOR);
        goesOn("can 0 (((((s=0)|", FACTOR);
        goesOn("can 0 (((((s=0)&(", TEST);
        goesOn("can 0 (((((s=0)&!", TEST);
        goesOn("can 0 (((((s=0)))))", "|&;");
        goesOn("can 0 (((((s=0)))))&((((", FACTOR);
        goesOn("can 0 (((((s=0)))))&(((((", TEST);
        sound("can 0 (((((s=0)))))|(((((s=1)))))");
        sound("can 0 (((((s=0)))));can 1 (((((s=1)))))");
        sound("can 0 " + "(s=0)|".repeat(14) + "(s=0)");
    }

    private static void notEnded() {
        sentence = "a ! till its F ends";
        goesOn("can 0 !!!!!s=0&!!!!", FACTOR);
        goesOn("can 0 !!!!!s=0&!!!!!", TEST);
        goesOn("can 0 !!!!!s=0|(((((", TEST);
        goesOn("can 0 !((((s=0", "|&)");
        goesOn("can 0 !((((s=0&", TEST);
        goesOn("can 0 !((((s=0)&", FACTOR);
        goesOn("can 0 !((((s=0)&(", TEST);
        goesOn("can 0 !((((s=0))))&(((((", TEST);
        goesOn("can 0 ((((!s=0&", FACTOR);
        goesOn("can 0 ((((!s=0&(", TEST);
        goesOn("can 0 ((((!s=0&!", TEST);
        goesOn("can 0 (!(s=0)&(((", FACTOR);
        goesOn("can 0 (!(s=0)&((((", TEST);
        goesOn("can 0 !(!s=0&!s=1)&((((", FACTOR);
        sound("can 0 " + "!s=0&".repeat(15) + "!s=0");
        sound("can 0 !!!!!s=0|!!!!!s=1|!!!!!s=2");
        sound("can 0 !!!!!s=0;can 1 !!!!!s=1");
    }

    private static void firstFault() {
        sentence = "FAULT: the place of the first byte with which no VALLEY can go on";
        fault("x", 0);
        fault("xx", 0);
        fault("can 3 z", 4);
        fault("can 0 z=100", 6);
        fault("pay 0 1x;can 9", 7);
        fault("pay 0 1;can 9;x", 12);
        fault("" + (char) 0, 0);
        fault("" + (char) 127, 0);
        fault("cover 1" + (char) 127, 7);
        fault("cover 100;pay 00", 8);
        fault("can 0 (((((((s=0", 11);
    }

    private static void endsTooEarly() {
        sentence = "the size, if it ends too early";
        String[] texts = {"can 2 !(s=0|g<1)&d>10", "pay 1 25", "cover 25", "can 0 (((((l=3)))))"};
        boolean[][] whole = new boolean[texts.length][];
        for (int i = 0; i < texts.length; i++) {
            whole[i] = new boolean[texts[i].length() + 1];
            whole[i][texts[i].length()] = true;
        }
        for (int at : new int[] {16, 20}) {
            whole[0][at] = true;
        }
        whole[1][7] = true;
        whole[2][7] = true;
        for (int i = 0; i < texts.length; i++) {
            for (int size = 0; size <= texts[i].length(); size++) {
                String text = texts[i].substring(0, size);
                if (whole[i][size]) {
                    sound(text);
                    sound("cover 9;" + text);
                } else {
                    fault(text, size);
                    fault("cover 9;" + text, 8 + size);
                }
            }
        }
    }

    private static void numbersOfValleys() {
        sentence = "VALLEYS are numbered from 0 on, 5 at most";
        DaysBag x = new DaysBag();
        for (int i = 0; i < 5; i++) {
            due("VALLEYS", x.count(1), i);
            due("valley()", read(x, "cover " + (i + 1)), i);
            due("it holds", x.told(0), i + 1);
        }
        due("VALLEYS", x.count(1), 5);
        due("the sixth", read(x, "cover 6"), DaysBag.FULL);
        due("VALLEYS", x.count(1), 5);
        due("the fifth holds", x.told(0), 5);
    }

    private static void faultTakesNoNumber() {
        sentence = "-10 less the FAULT (the one that held holds)";
        DaysBag x = with(1, 0, 0, "can 1 s=0;pay 1 40;cover 3");
        x.worker(1, 0);
        for (int i = 0; i < 7; i++) {
            due("valley()", read(x, "can 0 s=0;pay 1 5;cover 9;"), -36);
            due("THE TAPE is empty then", x.count(3), 0);
            due("VALLEYS", x.count(1), 1);
        }
        due("cover", x.told(0), 3);
        due("pay", x.told(11), 40);
        due("can", x.of(0, 10), 1);
        due("the next one's number", read(x, "cover 8"), 1);
        DaysBag bare = new DaysBag();
        bare.worker(1, 0);
        bare.bag(0, 1);
        due("valley()", read(bare, "can 0 s=0;pay 0 9;cover 9;x"), -36);
        due("no VALLEY held", bare.told(0), 0);
        due("no VALLEY held", bare.told(10), 1);
        due("no VALLEY held", bare.of(0, 10), -5);
    }

    private static void fullValleys() {
        sentence = "FULL (THE TAPE stays)";
        for (String tape : new String[] {"cover 50", "", "cover 5x", "can"}) {
            DaysBag x = new DaysBag();
            read(x, "cover 1");
            x.image();
            for (int i = 1; i < 5; i++) {
                read(x, "cover " + i);
            }
            due("valley() with '" + tape + "'", read(x, tape), DaysBag.FULL);
            due("once more", x.valley(), DaysBag.FULL);
            due("signs", x.count(3), tape.length());
            due("cover", x.told(0), 4);
            due("VALLEYS", x.count(1), 5);
            due("THE TAPE goes on", x.feed('0'), tape.length() + 1);
            x.undo();
            due("with fewer VALLEYS it is none", read(x, "cover 60"), 1);
        }
    }

    private static void newestHolds() {
        sentence = "the newest one holds";
        DaysBag x = with(1, 1, 0, "can 0 s=0;can 2 s=1;pay 0 9;pay 2 8;cover 7");
        x.worker(1, 0);
        due("can", x.of(0, 10), 0);
        due("can", x.of(0, 11), 2);
        read(x, "can 1 s=0");
        due("can", x.of(0, 10), 1);
        due("can of the old one", x.of(0, 11), -5);
        due("pay of the old one", x.told(10), 1);
        due("pay of the old one", x.told(12), 1);
        due("cover of the old one", x.told(0), 0);
    }

    private static void withoutValley() {
        sentence = "without one there are no CLAUSES";
        DaysBag x = new DaysBag();
        for (int sort = 0; sort < 3; sort++) {
            x.bag(sort, 5);
        }
        for (int kind = 0; kind < 7; kind++) {
            x.worker(kind, 9);
        }
        for (int sort = 0; sort < 3; sort++) {
            x.row(6, sort, sort);
        }
        for (int worker = 0; worker < 7; worker++) {
            for (int sort = 0; sort < 3; sort++) {
                due("of(" + worker + ", " + (10 + sort) + ")", x.of(worker, 10 + sort), -5);
            }
        }
        due("most()", x.most(), 0);
        due("whatever()", x.whatever(), 0);
        due("cover(0, 15, 0)", x.cover(0, 15, 0), 0);
    }

    private static void payWithout() {
        sentence = "Of pay of a WORK (1 without), of cover (0 without)";
        DaysBag bare = new DaysBag();
        DaysBag held = with(2, 0, 0, "can 0 s=0");
        for (int work = 0; work < 3; work++) {
            due("pay, no VALLEY", bare.told(10 + work), 1);
            due("pay, no pay", held.told(10 + work), 1);
        }
        due("cover, no VALLEY", bare.told(0), 0);
        due("cover, no cover", held.told(0), 0);
        held.worker(1, 0);
        held.draw(0, 0);
        due("1 is PAID", held.draw(0, 0), 1);
        DaysBag ahead = with(2, 0, 0, "can 0 s=0");
        ahead.worker(5, 0);
        due("1 in the mean", ahead.mean(0, 0, 0), 1);
        due("1 at most", ahead.most(), 1);
        DaysBag nothing = with(2, 0, 0, "can 0 s=0;pay 0 0");
        nothing.worker(1, 0);
        due("0 in the mean", nothing.mean(0, 0, 0), 0);
        due("0 at most", nothing.most(), 0);
        nothing.draw(0, 0);
        due("pay 0 is not without", nothing.draw(0, 0), 0);
        due("and the WORK is done", nothing.told(20), 2);
    }

    private static void lastHolds() {
        sentence = "the last n holds";
        DaysBag x = with(0, 0, 0, "pay 0 5;pay 1 6;pay 0 0;cover 9;pay 1 10;cover 0");
        due("pay 0", x.told(10), 0);
        due("pay 1", x.told(11), 10);
        due("pay 2", x.told(12), 1);
        due("cover", x.told(0), 0);
        due("cover", with(0, 0, 0, "cover 1;cover 99").told(0), 99);
    }

    /** What a PLAIN one does on a day of the sort: 0, or none. */
    private static int does(DaysBag x, String condition, int sort) {
        read(x, "can 0 " + condition);
        x.worker(1, 0);
        return x.of(0, 10 + sort);
    }

    private static DaysBag bagOf(int a, int b, int c) {
        DaysBag x = new DaysBag();
        x.bag(0, a);
        x.bag(1, b);
        x.bag(2, c);
        return x;
    }

    /** That a sign is this number on the day: all three relations, at it and on both sides of it. */
    private static void isValue(int a, int b, int c, int sort, char sign, int value) {
        for (int n = Math.max(0, value - 1); n <= value + 1; n++) {
            String at = " for " + sign + " = " + value + " against " + n;
            due("<" + at, does(bagOf(a, b, c), sign + "<" + n, sort), value < n ? 0 : -5);
            due("=" + at, does(bagOf(a, b, c), sign + "=" + n, sort), value == n ? 0 : -5);
            due(">" + at, does(bagOf(a, b, c), sign + ">" + n, sort), value > n ? 0 : -5);
        }
        due("< 99", does(bagOf(a, b, c), sign + "<99", sort), 0);
        due("= 99", does(bagOf(a, b, c), sign + "=99", sort), -5);
        due("> 99", does(bagOf(a, b, c), sign + ">99", sort), -5);
    }

    private static void sortOfDay() {
        sentence = "s its SORT";
        for (int sort = 0; sort < 3; sort++) {
            isValue(1, 1, 1, sort, 's', sort);
            isValue(5, 5, 5, sort, 's', sort);
        }
    }

    private static void stageOfWork() {
        sentence = "g the STAGE of the WORK";
        isValue(1, 0, 0, 0, 'g', 0);
        for (int stage = 0; stage <= 2; stage++) {
            for (int n = 0; n <= 3; n++) {
                DaysBag x = bagOf(1, 0, 0);
                x.stage(0, stage);
                x.stage(1, 2 - stage);
                due("g=" + n + " at " + stage, does(x, "g=" + n, 0), stage == n && stage < 2 ? 0 : -5);
            }
        }
    }

    private static void restThen() {
        sentence = "l THE REST then";
        isValue(1, 0, 0, 0, 'l', 0);
        isValue(0, 0, 1, 2, 'l', 0);
        isValue(1, 1, 0, 1, 'l', 1);
        isValue(5, 5, 5, 1, 'l', 14);
    }

    private static void leftOfSortThen() {
        sentence = "r how many of its SORT are in THE BAG then";
        isValue(1, 5, 5, 0, 'r', 0);
        isValue(5, 0, 0, 0, 'r', 4);
        isValue(5, 3, 1, 1, 'r', 2);
        isValue(5, 5, 1, 2, 'r', 0);
    }

    private static void whichDay() {
        sentence = "d which DAY it is (from 0)";
        isValue(1, 0, 0, 0, 'd', 0);
        for (int day : new int[] {1, 9, 10, 98}) {
            for (int n = day - 1; n <= day + 1; n++) {
                for (int relation = 0; relation < 3; relation++) {
                    DaysBag x = afterDays(day);
                    boolean holds = relation == 0 ? day < n : relation == 1 ? day == n : day > n;
                    String test = "d" + "<=>".charAt(relation) + n;
                    due(test + " on DAY " + day, does(x, test, 0), holds ? 0 : -5);
                }
            }
        }
        DaysBag x = afterDays(97);
        read(x, "can 0 d=97|d=98;pay 0 9");
        x.worker(1, 0);
        due("DAY 97", x.draw(1, 0), 0);
        due("DAY 98", x.draw(1, 0), 9);
        due("DAY 99", x.draw(1, 0), -1002);
    }

    /** On that DAY with 5 days of sort 0; worker 0 is a PLAIN one, without a VALLEY so far. */
    private static DaysBag afterDays(int days) {
        DaysBag x = new DaysBag();
        x.worker(1, 0);
        for (int i = 0; i < days; i++) {
            if (i % 5 == 0) {
                x.bag(0, 5);
            }
            due("draw", x.draw(0, 0), 0);
        }
        x.bag(0, 5);
        due("THE DAY", x.told(1), days);
        return x;
    }

    private static void strength() {
        sentence = "E: T, or T|E. T: F, or F&T (& ahead of |, ! ahead of both)";
        String[] yes = {"s=0|s=1&s=2", "s=1&s=2|s=0", "!s=1&s=0", "!s=0|s=0", "s=0&!s=1", "!(s=1&s=0)", "!(s=0&s=1)",
            "s=1|s=1|s=0", "s=0|s=1|s=1", "s=0&s<1&g=0", "!!s=0", "(s=0|s=1)&(s=2|s=0)", "!!!!!s=1", "s=0&(s=1|s=0)"};
        String[] no = {"s=1&s=2|s=1", "(s=0|s=1)&s=2", "s=2&(s=1|s=0)", "!s=0&s=0", "!(s=0|s=1)", "!(s=1|s=0)",
            "s=0&s=0&s=1", "s=1&s=0&s=0", "s=1|s=2|s=3", "!!!s=0", "!!!!!s=0", "!s=0|s=1", "!!s=1"};
        for (String text : yes) {
            due(text, does(bagOf(1, 0, 0), text, 0), 0);
        }
        for (String text : no) {
            due(text, does(bagOf(1, 0, 0), text, 0), -5);
        }
    }
}
