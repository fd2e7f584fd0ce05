import java.lang.management.ManagementFactory;

/** All calls of one run live in one room: the constructor makes the rows, no call makes another. */
public final class RoomTest {
    private static final long MOST_BYTES_MADE = 64 * 1024;
    private static long sum = 0;

    public static void main(String[] args) {
        com.sun.management.ThreadMXBean threads = (com.sun.management.ThreadMXBean) ManagementFactory.getThreadMXBean();
        long self = Thread.currentThread().getId();
        threads.getThreadAllocatedBytes(self);
        QuestionRoad warm = made();
        for (int round = 0; round < 3; round++) {
            dearCalls(warm);
        }
        long before = threads.getThreadAllocatedBytes(self);
        QuestionRoad x = made();
        long made = threads.getThreadAllocatedBytes(self) - before;
        before = threads.getThreadAllocatedBytes(self);
        // An object is used for 512 calls.
        for (int round = 0; round < 4; round++) {
            dearCalls(x);
        }
        long called = threads.getThreadAllocatedBytes(self) - before;
        System.out.println("bytes of a new object with texts " + made + ", of calls " + called + " (" + sum + ")");
        Checks.dueTrue("the constructor's rows are few: " + made, made <= MOST_BYTES_MADE);
        Checks.dueTrue("no call makes objects: " + called, called <= 4096);
        Checks.end("RoomTest");
    }

    private static QuestionRoad made() {
        QuestionRoad x = new QuestionRoad();
        String ways = "ab1f;bc2u;cd1d;da9f;ae1f;ef1u;fg1d;gh1f;ha2f;bh1u";
        String carters = "adc300;dac504;ber203;eco120;afo991;aar000;hdo609;gbr454";
        for (int i = 0; i < ways.length(); i++) {
            x.type(0, ways.charAt(i));
        }
        for (int i = 0; i < carters.length(); i++) {
            x.type(1, carters.charAt(i));
        }
        return x;
    }

    private static void dearCalls(QuestionRoad x) {
        for (int n = 0; n < 8; n++) {
            x.answer(n, n);
            x.seen(n, n, 8);
        }
        for (int s = 0; s < 4; s++) {
            x.sheet(s, 2, 60);
            x.write(s, s);
        }
        sum += x.copy(0, 0, 1, 0, 60) + x.back() + x.read(3);
        for (int c = 0; c < 8; c++) {
            sum += x.needs(c) + x.delay(c, 0) + x.sort(c) + x.force(c, 0) + x.ask(c) + x.rumour(5, c, 0) + x.ends(c);
        }
        sum += x.lend(0) + x.level(0) + x.never() + x.market(7, 0) + x.digest() + x.busiest();
    }
}
