import java.lang.management.ManagementFactory;

/** What a run makes must fit into one room: measured in bytes on this machine, with much to spare. */
public final class RoomTest {
    private static final com.sun.management.ThreadMXBean MEASURE =
            (com.sun.management.ThreadMXBean) ManagementFactory.getThreadMXBean();
    /** A constructor may be called as often as any other call: 7.3 million elements / 512, of 4 bytes and more. */
    private static final long MOST_BYTES_A_CALL = 4L * 7300000 / 512;

    public static void main(String[] args) {
        RestPay x = full();
        ask(x, 0);
        long before = made();
        ask(x, 0);
        ask(x, 1);
        long asked = made() - before;
        Check.holds("questions make nothing, but they made " + asked + " bytes", asked < 2000);
        before = made();
        RestPay y = new RestPay();
        long constructed = made() - before;
        Check.holds("a new object is small, but it has " + constructed + " bytes", constructed < MOST_BYTES_A_CALL);
        before = made();
        y.worker(0, false);
        long hired = made() - before;
        Check.holds("a worker is small, but has " + hired + " bytes", hired < MOST_BYTES_A_CALL);
        Check.put(y, longText());
        before = made();
        y.act(0);
        long read = made() - before;
        Check.holds("an act is small, but has " + read + " bytes", read < MOST_BYTES_A_CALL);
        Check.end("RoomTest");
    }

    private static long made() {
        return MEASURE.getThreadAllocatedBytes(Thread.currentThread().getId());
    }

    private static String longText() {
        StringBuilder text = new StringBuilder();
        for (int i = 0; i < 10; i++) {
            text.append("counts base 100 when 1+1+1+1+1+1+1;");
        }
        return text.append("empty when ").append("not 0 and ".repeat(5)).append("1;").toString();
    }

    private static RestPay full() {
        RestPay x = new RestPay();
        Check.put(x, longText());
        Check.same("act", x.act(0), 11);
        for (int w = 0; w < 10; w++) {
            x.worker(w, true);
            for (int b = 0; b < 10; b++) {
                x.bank(w, b, 2 * b + 5, 900 * b);
            }
            for (int i = 0; i < 5; i++) {
                x.lost(w, 3 * i);
                x.holiday(w, 100 * i + 7, 5, 0);
                x.claim(w, 100 * i + 10);
            }
        }
        Check.same("facts", x.about(1), 250);
        return x;
    }

    private static void ask(RestPay x, int k) {
        for (int w = 0; w < 10; w++) {
            x.span(w, 3, true, k);
            x.quarrel(w, k);
            x.counted(0, w, 3, true, k);
            x.empty(0, w, 3, true, k);
            x.payout(0, w, true, k);
            x.marks(0, w, true, k);
        }
        for (int fact = 0; fact < 250; fact++) {
            x.average(0, fact, true, k);
            x.weeks(0, fact, true, k);
            x.owed(0, fact, true, k);
            x.chain(0, fact, true, k);
            x.link(0, fact, 0, true, k);
            x.due(0, fact, true, k);
        }
        x.quarrels(0, 1, true, k);
        x.tests(0, 3, true, k);
        x.settles(0, 3, true, k);
        x.about(1);
    }
}
