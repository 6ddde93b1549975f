/** Part 3 of the document: what a SOURCE does, WATERMARKS and BARRIERS, at their edges (promises 6, 7, 9, 10, 19, 20). */
public final class SourcesTest {
    private static final long ENDLESS = 1L << 40;

    public static void main(String[] args) {
        times();
        sixtyFourRows();
        asManyColumns();
        lateOnes();
        whenAWatermarkGoes();
        theGreatestTimeSoFar();
        endlessOnce();
        markBeforeRowBeforeEnd();
        leastOfChannels();
        onlyWhenItGrows();
        rowsBeforeTheWatermark();
        blocked();
        blockedNotTaken();
        askedLater();
        Check.end();
    }

    /** "A ROW has a TIME, 0 .. 1000000 (of rows that are made perhaps more)" */
    private static void times() {
        for (int time : new int[] {0, 1, 999999, 1000000}) {
            House x = Check.house("a = source 0 (k) lag 0; output a;");
            Check.same("time " + time, x.give(0, time, 7, 0, 0, 0), 0);
            x.start(1, 1, 1);
            Check.finish(x);
            Check.same("its row", Check.rows(x, 0, 1), time + ":7<0>");
        }
        for (int time : new int[] {-1, 1000001, Integer.MIN_VALUE, Integer.MAX_VALUE}) {
            House x = Check.house("a = source 0 (k) lag 0; output a;");
            Check.argument("time " + time, () -> x.give(0, time, 7, 0, 0, 0));
            Check.same("nothing was given", x.give(0, 5, 7, 0, 0, 0), 0);
        }
        House y = Check.house("a = source 0 (k) lag 0; f = fold a by k gap 1000 : n = count; g = fold f by k span 1000 step 1000 : n = count;"
            + "t = top 1 g by n span 999; output f; output g; output t;");
        y.give(0, 1000000, 7, 0, 0, 0);
        y.start(2, 2, 2);
        Check.finish(y);
        Check.same("a session's row", Check.rows(y, 0, 2), "1000999:7,1<0>");
        Check.same("a span's row", Check.rows(y, 1, 2), "1000999:7,1<0>");
        Check.same("a top's row", Check.rows(y, 2, 3), "1001996:7,1,1<0>");
    }

    /** "UnsupportedOperation: it has 64." */
    private static void sixtyFourRows() {
        House x = Check.house("a = source 3 (k) lag 9; b = source 0 (k) lag 9; output a;");
        for (int i = 0; i < 64; i++) {
            Check.same("place", x.give(3, 5, i, 0, 0, 0), i);
        }
        Check.room("row 65", () -> x.give(3, 5, 1, 0, 0, 0));
        Check.room("row 65 at time 0", () -> x.give(3, 0, 1, 0, 0, 0));
        Check.argument("row 65 at a wrong time", () -> x.give(3, 1000001, 1, 0, 0, 0));
        Check.same("another source has its own", x.give(0, 5, 1, 0, 0, 0), 0);
        x.start(1, 8, 1);
        Check.room("row 65 while it runs", () -> x.give(3, 5, 1, 0, 0, 0));
        Check.finish(x);
        Check.same("64 rows", x.visible(0), 64);
        Check.same("the last one", x.row(0, 63, 0), 63);
        Check.same("where it comes from", x.lineage(0, 63, 0), 3 * 64 + 63);
        Check.state("closed, which is looked at first", () -> x.give(3, 5, 1, 0, 0, 0));
    }

    /** "Columns are a, b, .. as many as it has." */
    private static void asManyColumns() {
        String[] columns = {"k", "k l", "k l m", "k l m n"};
        long[] given = {Long.MIN_VALUE, -1, Long.MAX_VALUE, 4};
        for (int n = 1; n <= 4; n++) {
            House x = Check.house("a = source 0 (" + columns[n - 1] + ") lag 0; output a;");
            x.give(0, 5, given[0], given[1], given[2], given[3]);
            x.start(1, 1, 1);
            Check.finish(x);
            for (int c = 0; c < n; c++) {
                Check.same("column " + c, x.row(0, 0, c), given[c]);
            }
            int width = n;
            Check.index("column " + n, () -> x.row(0, 0, width));
        }
    }

    /** "if its time is not above the source's watermark, it is LATE (aside)" */
    private static void lateOnes() {
        for (int lag : new int[] {0, 1, 2, 999, 1000}) {
            int first = 5000;
            for (int below = -1; below <= 1; below++) {
                House x = Check.house("a = source 0 (k) lag " + lag + "; output a;");
                x.give(0, first, 1, 0, 0, 0);
                x.give(0, first - lag - 1 - below, 2, 0, 0, 0);
                x.start(1, 8, 1);
                Check.settle(x);
                boolean late = below >= 0;
                Check.same("watermark with lag " + lag, x.task(0, 2), first - lag - 1);
                Check.same("late ones, " + below + " below", x.task(0, 6), late ? 1 : 0);
                Check.same("rows read", x.task(0, 5), 2);
                Check.same("place", x.task(0, 7), 2);
                Check.same("rows that went", x.channel(0, 5), late ? 1 : 2);
                Check.same("sets", x.told(12), late ? 1 : 2);
                Check.same("pending", x.told(11), late ? 1 : 2);
            }
        }
        // at first it is -1: no row is late
        House x = Check.house("a = source 0 (k) lag 0; output a;");
        x.give(0, 0, 1, 0, 0, 0);
        x.give(0, 0, 2, 0, 0, 0);
        x.start(1, 8, 1);
        Check.settle(x);
        Check.same("none is late", x.task(0, 6), 0);
        Check.same("its watermark", x.task(0, 2), -1);
    }

    /** "if the greatest time read so far, less lag, less 1, is above its watermark (-1 at first), it is that, and goes" */
    private static void whenAWatermarkGoes() {
        for (int lag : new int[] {0, 1, 1000}) {
            for (int time = lag; time <= lag + 2; time++) {
                House x = Check.house("a = source 0 (k) lag " + lag + "; output a;");
                x.give(0, time, 1, 0, 0, 0);
                x.start(1, 8, 1);
                Check.settle(x);
                Check.same("watermark of time " + time + ", lag " + lag, x.task(0, 2), time - lag - 1);
                Check.same("that of the channel", x.channel(0, 3), time - lag - 1);
                Check.same("that of the output", x.task(1, 2), time - lag - 1);
                Check.same("things that it took", x.task(1, 5), time == lag ? 1 : 2);
            }
        }
    }

    private static void theGreatestTimeSoFar() {
        House x = Check.house("a = source 0 (k) lag 3; output a;");
        x.start(1, 8, 1);
        int[][] due = {
            // time, watermark, things that the output took, late ones
            {10, 6, 2, 0}, {9, 6, 3, 0}, {10, 6, 4, 0}, {11, 7, 6, 0}, {7, 7, 6, 1}, {8, 7, 7, 1}, {4, 7, 7, 2}, {20, 16, 9, 2}, {17, 16, 10, 2}, {16, 16, 10, 3}};
        for (int[] d : due) {
            x.give(0, d[0], 1, 0, 0, 0);
            Check.settle(x);
            Check.same("watermark behind " + d[0], x.task(0, 2), d[1]);
            Check.same("things taken behind " + d[0], x.task(1, 5), d[2]);
            Check.same("late ones behind " + d[0], x.task(0, 6), d[3]);
        }
    }

    /** "if it is closed and its watermark is not ENDLESS (2^40): it is, and goes. Else the turn is IDLE." */
    private static void endlessOnce() {
        House x = Check.house("a = source 0 (k) lag 3; output a;");
        x.close(0);
        x.start(1, 8, Check.seedFor(2, "AAABBA"));
        Check.same("nothing is read", x.turn(1), 0);
        Check.same("its watermark", x.task(0, 2), ENDLESS);
        Check.same("it goes", x.channel(0, 2), 1);
        Check.same("not idle", x.told(4), 0);
        x.turn(2);
        Check.same("once alone", x.channel(0, 2), 1);
        Check.same("idle", x.told(4), 2);
        Check.same("it is taken", x.turn(1), 1);
        Check.same("watermark of the output", x.task(1, 2), ENDLESS);
        x.turn(2);
        Check.same("idle", x.told(4), 4);
        Check.same("no row went", x.channel(0, 5), 0);
    }

    private static void markBeforeRowBeforeEnd() {
        House x = Check.house("a = source 0 (k) lag 3; output a;");
        x.give(0, 1, 1, 0, 0, 0);
        x.give(0, 2, 1, 0, 0, 0);
        x.close(0);
        x.start(1, 8, Check.seedFor(2, "AAAAABBBBA"));
        x.mark();
        Check.same("the barrier goes first", x.turn(1), 0);
        Check.same("its part", x.task(0, 8), 1);
        Check.same("its place", x.task(0, 7), 0);
        Check.same("nothing is idle", x.told(4), 0);
        Check.same("then a row", x.turn(1), 1);
        Check.same("then a row", x.turn(1), 1);
        Check.same("not at its end", x.task(0, 2), -1);
        Check.same("then the end", x.turn(1), 0);
        Check.same("its end", x.task(0, 2), ENDLESS);
        Check.same("nothing is idle", x.told(4), 0);
        x.turn(1);
        Check.same("idle", x.told(4), 1);
        Check.same("the barrier is taken", x.turn(1), 1);
        Check.same("sealed", x.told(5), 1);
        Check.same("nothing was before the barrier", x.visible(0), 0);
        x.turn(3);
        Check.same("pending", x.told(11), 2);
        x.mark();
        x.turn(1);
        Check.same("a barrier behind the end", x.task(0, 8), 1);
    }

    /** "A task's is the least of its channels" */
    private static void leastOfChannels() {
        House x = Check.house("a = source 0 (k) lag 0; b = source 1 (k) lag 0; c = source 2 (k) lag 0; u = union a b; w = union u c; output w;");
        x.start(1, 8, 1);
        int[][] due = {
            // source, time, and watermarks of u and w; a 0, b 1, c 2, u 3, w 4
            {0, 10, -1, -1}, {1, 5, 4, -1}, {2, 4, 4, 3}, {2, 6, 4, 4}, {2, 7, 4, 4}, {1, 8, 7, 6}, {1, 10, 9, 6}, {1, 11, 9, 6}, {2, 11, 9, 9}, {0, 11, 10, 10}};
        for (int[] d : due) {
            x.give(d[0], d[1], 1, 0, 0, 0);
            Check.settle(x);
            Check.same("u behind " + d[0] + " at " + d[1], x.task(3, 2), d[2]);
            Check.same("w behind " + d[0] + " at " + d[1], x.task(4, 2), d[3]);
            Check.same("channel to the output", x.channel(4, 3), d[3]);
        }
        x.close(0);
        x.close(2);
        Check.settle(x);
        Check.same("b is open", x.task(4, 2), 10);
        x.close(1);
        Check.settle(x);
        Check.same("all are closed", x.task(4, 2), ENDLESS);
    }

    /** "when it grows, .. then it goes on": a watermark that makes no task's grow does not. */
    private static void onlyWhenItGrows() {
        House x = Check.house("a = source 0 (k) lag 0; b = source 1 (k) lag 0; u = union a b; output u;");
        x.start(1, 8, 1);
        for (int t = 1; t <= 5; t++) {
            x.give(0, t, 1, 0, 0, 0);
        }
        Check.settle(x);
        Check.same("things that the union took", x.task(2, 5), 10);
        Check.same("things that the output took", x.task(3, 5), 5);
        x.give(1, 3, 1, 0, 0, 0);
        Check.settle(x);
        Check.same("a row and a watermark", x.task(3, 5), 7);
        x.give(1, 9, 1, 0, 0, 0);
        Check.settle(x);
        Check.same("its watermark is that of the other", x.task(3, 2), 4);
        Check.same("a row and a watermark", x.task(3, 5), 9);
        x.give(1, 12, 1, 0, 0, 0);
        Check.settle(x);
        Check.same("a row alone", x.task(3, 5), 10);
    }

    /** "what its operator does then is done, and then it goes on" */
    private static void rowsBeforeTheWatermark() {
        House x = Check.house("a = source 0 (k) lag 0; t = top 3 a by k span 5; output t;");
        x.give(0, 3, 1, 0, 0, 0);
        x.give(0, 4, 2, 0, 0, 0);
        x.give(0, 6, 3, 0, 0, 0);
        // a A, t B, output C: three rows and watermarks 2, 3, 5
        x.start(1, 8, Check.seedFor(3, "AAABBBBBBCCC"));
        x.turn(9);
        // watermarks 2 and 3, two rows of the span to 4, and watermark 5
        Check.same("things to the output", x.channel(1, 2), 5);
        Check.same("rows to the output", x.channel(1, 5), 2);
        x.turn(3);
        Check.same("watermarks 2, 3, and a row, before watermark 5", x.task(2, 2), 3);
        Check.same("pending", x.told(11), 1);
    }

    /** "A BARRIER that is taken BLOCKS its channel; when all channels of the task are blocked .. no channel is blocked any more" */
    private static void blocked() {
        House x = Check.house("a = source 0 (k) lag 9; b = source 1 (k) lag 9; j = union a b; w = union j b; output w;");
        x.start(1, 8, 3);
        x.mark();
        boolean seen = false;
        for (int t = 0; t < 60 && x.told(6) != 0; t++) {
            x.turn(1);
            if (x.told(6) == 0) {
                break;
            }
            long first = x.channel(0, 4);
            long second = x.channel(1, 4);
            seen |= first + second == 1;
            Check.same("both can't be blocked", first + second <= 1 ? 1 : 0, 1);
            Check.same("its part, or not blocked twice", x.task(2, 8) == 1 && first + second > 0 ? 1 : 0, 0);
        }
        Check.same("one was blocked alone", seen ? 1 : 0, 1);
        Check.same("sealed", x.told(5), 1);
        for (int c = 0; c < x.told(2); c++) {
            Check.same("channel " + c + " is not blocked", x.channel(c, 4), 0);
        }
    }

    private static void blockedNotTaken() {
        House x = Check.house("a = source 0 (k) lag 9; b = source 1 (k) lag 9; u = union a b; output u;");
        x.start(1, 8, Check.seedFor(4, "ACACABBCCCCC"));
        x.mark();
        x.turn(2);
        Check.same("blocked", x.channel(0, 4), 1);
        x.give(0, 1, 1, 0, 0, 0);
        x.give(0, 1, 2, 0, 0, 0);
        x.give(1, 1, 3, 0, 0, 0);
        x.turn(1);
        Check.same("a row behind the barrier", x.channel(0, 2), 1);
        Check.same("is not taken", x.turn(1), 0);
        Check.same("that was idle", x.told(4), 1);
        x.turn(1);
        Check.same("two rows", x.channel(0, 2), 2);
        x.turn(2);
        Check.same("a barrier and a row of b", x.channel(1, 2), 2);
        Check.same("its barrier is taken", x.turn(1), 1);
        Check.same("its part", x.task(2, 8), 1);
        Check.same("no rows are in the part: none went on", x.channel(2, 5), 0);
        Check.same("a row of a", x.turn(1), 1);
        Check.same("left of a", x.channel(0, 2), 1);
        Check.same("a row of b", x.turn(1), 1);
        Check.same("left of b", x.channel(1, 2), 0);
        Check.same("a row of a", x.turn(1), 1);
        Check.same("nothing is left", x.turn(1), 0);
    }

    /** What comes of a source before its barrier is of the mark, what comes behind it is not. */
    private static void askedLater() {
        House x = Check.house("a = source 0 (k) lag 9; output a;");
        x.give(0, 1, 1, 0, 0, 0);
        x.give(0, 1, 2, 0, 0, 0);
        x.start(1, 8, Check.seedFor(2, "AAABBB"));
        x.turn(1);
        x.mark();
        x.turn(2);
        Check.same("a row, a barrier, a row", x.channel(0, 2), 3);
        x.turn(3);
        Check.same("rows", Check.rows(x, 0, 1), "1:1<0>");
        Check.same("pending", x.told(11), 1);
        Check.same("fail", x.fail(), 1);
        Check.same("its place", x.task(0, 7), 1);
    }
}
