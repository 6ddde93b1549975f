import java.lang.management.ManagementFactory;

/** All calls of one run live in one room: what 512 of the dearest calls make stays far below it. */
public final class RoomTest {
    /** Seven million fields and elements of eight bytes each are some 58 million. */
    private static final long MOST_BYTES = 8_000_000L;
    private static final String TWO = "a = source 0 (k v) lag 1000; b = source 1 (l w) lag 1000; ";
    private static final String[] JOBS = {
        TWO + "f = fold a by v span 1000 step 125 : n = count; g = fold a by v span 800 step 100 : n = count;"
            + "h = fold b by w span 1000 step 125 : n = count; i = fold b by w span 800 step 100 : n = count;"
            + "m = fold b by w span 80 step 10 : n = count; o = fold a by v span 80 step 10 : n = count;"
            + "p = fold a by v span 8 step 1 : n = count; q = fold b by w span 8 step 1 : n = count; output f; output p;",
        TWO + "c = source 2 (m x) lag 1000; j = join a b by k l within - 1000 1000; i = join j c by k m within - 1000 1000; output c;",
        TWO + "j = join a b by k l within - 1000 1000; m = match j by k : 1 then v then w within 1000; q = unique j by v within 3;"
            + "t = top 3 j by v span 7; output t;",
        TWO + "j = join a b by k l within - 2 2; i = map j : x = k, y = v; e = look a i by k x; g = fold e by y gap 3 : n = count; output g;"};

    public static void main(String[] args) {
        for (String job : JOBS) {
            long before = allocated();
            House x = Check.house(job);
            int calls = 1 + (job.length() + 7) / 8 + 1;
            calls += giveAll(x);
            for (int i = 0; calls + 7 <= 512; i++) {
                calls += round(x, i);
            }
            long made = allocated() - before;
            Check.same(made + " bytes of " + job, made < MOST_BYTES ? 1 : 0, 1);
        }
        Check.end();
    }

    private static int giveAll(House x) {
        int calls = 0;
        for (int s = 0; s < 3; s++) {
            for (int i = 0; i < 64; i++) {
                try {
                    x.give(s, i, 1, 100 * s + i, 0, 0);
                } catch (IllegalStateException e) {
                    break; // the job has not that source
                }
                calls++;
            }
        }
        Check.closeAll(x);
        return calls + 4;
    }

    private static int round(House x, int i) {
        if (i % 5 == 0) {
            x.start(1 + i % 4, 1 + i % 8, i);
        }
        x.turn(5000);
        if (x.told(8) == 1) {
            x.fail();
        } else if (x.told(6) == 0) {
            x.mark();
        }
        x.turn(5000);
        x.onePass();
        return 7;
    }

    private static long allocated() {
        return ((com.sun.management.ThreadMXBean) ManagementFactory.getThreadMXBean()).getCurrentThreadAllocatedBytes();
    }
}
