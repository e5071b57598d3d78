import java.lang.management.ManagementFactory;

/** What an object and its dearest calls make, against the one room that all calls of a run live in. */
public final class RoomTest {
    private static final long BYTES_A_CALL = 1_000, BYTES_AN_OBJECT = 120_000;

    public static void main(String[] args) {
        com.sun.management.ThreadMXBean meter =
            (com.sun.management.ThreadMXBean) ManagementFactory.getThreadMXBean();
        long self = Thread.currentThread().getId();
        use(new DaysBag());
        long start = meter.getThreadAllocatedBytes(self);
        DaysBag x = new DaysBag();
        long made = meter.getThreadAllocatedBytes(self) - start;
        start = meter.getThreadAllocatedBytes(self);
        int calls = use(x);
        long each = (meter.getThreadAllocatedBytes(self) - start) / calls;
        System.out.println("an object takes " + made + " bytes, a call " + each);
        if (made > BYTES_AN_OBJECT || each > BYTES_A_CALL) {
            System.exit(1);
        }
    }

    private static int use(DaysBag x) {
        String text = "can 0 s=0|r>2&!(d>3);can 1 s=1&!(g>0)|l<3;can 2 (s=2|l>5)&d>2;can 1 r=1;pay 0 9;pay 1 30";
        for (int i = 0; i < text.length(); i++) {
            x.feed(text.charAt(i));
        }
        int calls = text.length() + 1;
        for (int kind = 0; kind < 7; kind++) {
            x.worker(kind, 5);
            x.book(kind % 3);
            calls += 2;
        }
        x.image();
        for (int i = 0; i < 28; i++) {
            x.undo();
            x.valley();
            x.bag(i % 3, 4 + i % 2);
            x.mean(5, 1, 0);
            x.mean(6, 2, 0);
            x.row(6, 0, 1);
            x.put(i % 3, 0);
            x.right(i % 3, 0);
            x.whatever();
            x.most();
            x.judged(5, 1);
            x.same();
            x.draw(5, 0);
            x.act(4, 2, i);
            calls += 14;
        }
        return calls;
    }
}
