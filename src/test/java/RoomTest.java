import java.lang.management.ManagementFactory;

/** All calls of one run live in one room: what 512 of the dearest calls make stays far below it. */
public final class RoomTest {
    /** Seven million fields and elements of eight bytes each are some 58 million. */
    private static final long MOST_BYTES = 8_000_000L;
    /** What a round may make when as many went before: the measuring alone, far less than a cell for each row. */
    private static final long BYTES_OF_A_ROUND = 500L;
    private static final int ROUNDS = 8;
    private static final String TWO = "a = source 0 (k v) lag 1000; b = source 1 (l w) lag 1000; ";
    private static final String[] DEAR = {
        TWO + "f = fold a by v span 1000 step 125 : n = count; g = fold a by v span 800 step 100 : n = count;"
            + "h = fold b by w span 1000 step 125 : n = count; i = fold b by w span 800 step 100 : n = count;"
            + "m = fold b by w span 80 step 10 : n = count; o = fold a by v span 80 step 10 : n = count;"
            + "p = fold a by v span 8 step 1 : n = count; q = fold b by w span 8 step 1 : n = count; output f; output p;",
        TWO + "c = source 2 (m x) lag 1000; j = join a b by k l within - 1000 1000; i = join j c by k m within - 1000 1000; output c;",
        TWO + "j = join a b by k l within - 1000 1000; m = match j by k : 1 then v then w within 1000; q = unique j by v within 3;"
            + "t = top 3 j by v span 7; output t;",
        TWO + "j = join a b by k l within - 2 2; i = map j : x = k, y = v; e = look a i by k x; g = fold e by y gap 3 : n = count; output g;"};
    /** Every way that a row can go: on, aside, late, away, together with others. */
    private static final String SMALL = "a = source 0 (k v) lag 4; b = source 1 (l w) lag 4; ";
    private static final String[] STEADY = {
        SMALL + "f = filter a : 1 / (v - 3) | v - 5; m = map f : x = k, y = 9 / (v - 1); u = union m m; output u;",
        SMALL + "f = fold a by k span 8 step 2 : n = count, s = sum 1 / (v - 2); g = fold a by k gap 3 : n = count, m = most 1 / (v - 4); output f; output g;",
        SMALL + "j = join a b by k l within - 3 3; o = look a b by k l; output j; output o;",
        SMALL + "m = match a by k : v then 5 / (v - 2) within 6; u = unique a by k within 3; t = top 2 a by v span 5; output m; output u; output t;"};

    public static void main(String[] args) {
        for (String job : DEAR) {
            long before = allocated();
            StreamHouse x = house(job);
            int calls = 1 + (job.length() + 7) / 8 + 1;
            calls += giveAll(x);
            for (int i = 0; calls + 7 <= 512; i++) {
                calls += round(x, i);
            }
            long made = allocated() - before;
            Check.same(made + " bytes of " + job, made < MOST_BYTES ? 1 : 0, 1);
        }
        for (String job : STEADY) {
            steady(job);
        }
        Check.end();
    }

    private static StreamHouse house(String job) {
        StreamHouse x = new StreamHouse();
        for (int at = 0; at < job.length(); at += 8) {
            int n = Math.min(8, job.length() - at);
            long bytes = 0;
            for (int i = 0; i < n; i++) {
                bytes = bytes << 8 | job.charAt(at + i);
            }
            x.feed(bytes, n);
        }
        Check.same("job " + job, x.job() > 0 ? 1 : 0, 1);
        return x;
    }

    private static int giveAll(StreamHouse x) {
        int calls = 0;
        for (int s = 0; s < 3; s++) {
            for (int i = 0; i < 64; i++) {
                try {
                    x.give(s, i, 1, 100 * s + i, 0, 0);
                } catch (IllegalStateException e) {
                    break; // the job has not that source
                }
                calls++;
            }
        }
        return calls + closeAll(x);
    }

    private static int closeAll(StreamHouse x) {
        for (int s = 0; s < 4; s++) {
            try {
                x.close(s);
            } catch (IllegalStateException e) {
                continue; // the job has not that source
            }
        }
        return 4;
    }

    private static int round(StreamHouse x, int i) {
        if (i % 5 == 0) {
            x.start(1 + i % 4, 1 + i % 8, i);
        }
        x.turn(5000);
        if (x.told(8) == 1) {
            x.fail();
        } else if (x.told(6) == 0) {
            x.mark();
        }
        x.turn(5000);
        x.onePass();
        return 7;
    }

    /** Runs, marks, failures, other numbers of tasks and cuts of the power use what those before them left. */
    private static void steady(String job) {
        StreamHouse x = house(job);
        for (int i = 0; i < 60; i++) {
            x.give(0, i + i * 7 % 13, i % 3, i % 6, 0, 0);
            x.give(1, i + i * 5 % 9, i % 3, i % 6, 0, 0);
        }
        closeAll(x);
        // a job of 25 calls at most, 124 calls that give and close, and 16 rounds of 18
        for (int i = 0; i < ROUNDS; i++) {
            steadyRound(x, i % 4);
        }
        long before = allocated();
        for (int i = 0; i < ROUNDS; i++) {
            steadyRound(x, i % 4);
        }
        long made = allocated() - before;
        Check.same(made + " bytes of rounds of " + job, made < ROUNDS * BYTES_OF_A_ROUND ? 1 : 0, 1);
    }

    private static void steadyRound(StreamHouse x, int kind) {
        x.start(1 + kind, 1 + 2 * kind, kind);
        x.turn(700);
        x.mark();
        x.turn(1500);
        x.fail();
        x.turn(1500);
        if (x.told(6) == 0) {
            x.mark();
        }
        x.rescale(1 + (kind + 2) % 4);
        x.turn(2000);
        x.crash(3);
        if (x.told(6) == 0) {
            x.mark();
        }
        x.turn(2000);
        if (x.told(9) == 1) {
            x.reopen();
        }
        x.turn(3000);
        x.onePass();
    }

    private static long allocated() {
        return ((com.sun.management.ThreadMXBean) ManagementFactory.getThreadMXBean()).getCurrentThreadAllocatedBytes();
    }
}
