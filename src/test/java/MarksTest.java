/** Promises 10 to 14, 21 and 22: mark, fail, rescale, crash, reopen, records. */
public final class MarksTest {
    private static final String PLAIN = "a = source 0 (k v) lag 2; output a;";

    public static void main(String[] args) {
        wrongCalls();
        failing();
        power();
        down();
        givenUp();
        aligning();
        recordsOfMarks();
        asideOfParts();
        goingOn();
        Check.end();
    }

    private static void wrongCalls() {
        House x = Check.house(PLAIN);
        Check.state("mark without a run", () -> x.mark());
        Check.state("fail without a run", () -> x.fail());
        Check.state("rescale without a run", () -> x.rescale(0));
        x.start(1, 1, 1);
        Check.argument("rescale(0)", () -> x.rescale(0));
        Check.argument("rescale(5)", () -> x.rescale(5));
        Check.same("it did not begin again", x.told(7), 0);
        Check.state("reopen of a house that is not down", () -> x.reopen());
        Check.argument("crash(-2)", () -> {
            x.crash(-2);
            return 0;
        });
        Check.same("a mark", x.mark(), 1);
        Check.state("a mark while one is open", () -> x.mark());
        Check.same("the open mark", x.told(6), 1);
    }

    /** What a failure takes back, and what a mark keeps. */
    private static void failing() {
        House x = Check.house("a = source 0 (k v) lag 2; f = fold a by k span 5 step 5 : n = count; output a; output f;");
        Check.give(x, Check.row(0, 5, 1, 10), Check.row(0, 1, 1, 1), Check.row(0, 6, 1, 20));
        x.start(2, 3, 77);
        Check.settle(x);
        Check.same("late", x.task(0, 6), 1);
        Check.same("pending", x.told(11), 2);
        Check.same("fail without a mark", x.fail(), 0);
        Check.same("began again", x.told(7), 1);
        Check.same("pending rows go", x.told(11), 0);
        Check.same("the place is that of the beginning", x.task(0, 7), 0);
        Check.same("none is late", x.task(0, 6), 0);
        Check.same("the watermark", x.task(0, 2), -1);
        Check.same("nothing in its box", x.task(0, 3), 0);
        Check.same("nothing was taken", x.task(0, 5), 0);
        Check.settle(x);
        Check.same("sets since start()", x.told(12), 2 * (2 + 1));
        Check.same("a mark", x.mark(), 1);
        Check.settle(x);
        Check.same("rows", Check.rows(x, 0, 2), "5:1,10<0> 6:1,20<2>");
        x.give(0, 30, 1, 30, 0, 0);
        Check.settle(x);
        Check.same("pending", x.told(11), 2);
        int turns = x.told(3);
        Check.same("fail with a mark", x.fail(), 1);
        Check.same("turns since start()", x.told(3), turns);
        Check.same("began again", x.told(7), 2);
        Check.same("its place", x.task(0, 7), 3);
        Check.same("its watermark", x.task(0, 2), 3);
        Check.same("late as of its state", x.task(0, 6), 1);
        Check.same("its watermark for two folds' tasks and an output is in its box", x.task(0, 3), 3);
        Check.same("a fold's watermark", x.task(1, 2), -1);
        Check.same("a span is there again", x.task(1, 4) + x.task(2, 4), 1);
        Check.same("rows stay visible", x.visible(0), 2);
        Check.finish(x);
        Check.same("rows of a", Check.rows(x, 0, 2), "5:1,10<0> 6:1,20<2> 30:1,30<3>");
        Check.same("rows of f", Check.rows(x, 1, 2), "9:1,2<0,2> 34:1,1<3>");
        Check.same("right", x.onePass() ? 1 : 0, 1);
    }

    /** The source's part, the output's part and the seal are written one behind the other. */
    private static void power() {
        for (int n = 0; n <= 3; n++) {
            House x = Check.house(PLAIN);
            x.give(0, 5, 1, 10, 0, 0);
            x.crash(7);
            x.start(1, 2, Check.seedFor(2, "AABBBABAB"));
            x.turn(5);
            x.crash(n);
            x.mark();
            // A: source's part and barrier; B: it is taken, the output's part, the seal
            int took = x.turn(2);
            Check.same("taken, crash(" + n + ")", took, n == 0 ? 0 : 1);
            Check.same("turns, crash(" + n + ")", x.told(3), n == 0 ? 6 : 7);
            Check.same("down, crash(" + n + ")", x.told(9), n < 3 ? 1 : 0);
            Check.same("visible, crash(" + n + ")", x.visible(0), n < 3 ? 0 : 1);
            Check.same("latest, crash(" + n + ")", x.told(5), n < 3 ? 0 : 1);
            Check.same("open, crash(" + n + ")", x.told(6), n < 3 ? 1 : 0);
            Check.same("prepared, crash(" + n + ")", x.told(10), n == 2 ? 1 : 0);
            if (n == 3) {
                Check.same("nothing more is to come now", x.fail(), 1);
                continue;
            }
            Check.same("reopen, crash(" + n + ")", x.reopen(), 0);
            Check.same("prepared rows go", x.told(10), 0);
            Check.same("the mark is given up", x.told(6), 0);
            Check.same("began again", x.told(7), 1);
            Check.same("not down", x.told(9), 0);
            Check.finish(x);
            Check.same("the next mark", x.told(5), 2);
            Check.same("rows", Check.rows(x, 0, 2), "5:1,10<0>");
        }
        House never = Check.house(PLAIN);
        never.crash(0);
        never.crash(-1);
        never.start(1, 1, 1);
        Check.finish(never);
        Check.same("no failure", never.told(5), 1);
    }

    private static void down() {
        House x = Check.house("a = source 0 (k v) lag 2; f = unique a by k within 3; output f;");
        x.give(0, 5, 1, 10, 0, 0);
        x.start(2, 2, 3);
        Check.finish(x);
        Check.feed(x, "a = source 0 (k v) lag 2; output a;");
        x.crash(0);
        x.mark();
        x.turn(1000);
        Check.same("down", x.told(9), 1);
        Check.state("job", () -> x.job());
        Check.same("the tape is used up", x.told(14), 0);
        Check.same("the job stays", x.told(0), 3);
        Check.same("the fault stays", x.fault(), 0);
        Check.state("start", () -> x.start(0, 1, 1));
        Check.state("turn", () -> x.turn(0));
        Check.state("mark", () -> x.mark());
        Check.state("fail", () -> x.fail());
        Check.state("rescale", () -> x.rescale(0));
        Check.state("crash", () -> {
            x.crash(-5);
            return 0;
        });
        Check.state("task", () -> x.task(0, 99));
        Check.index("task", () -> x.task(99, 99));
        Check.state("channel", () -> x.channel(0, 99));
        Check.index("channel", () -> x.channel(99, 99));
        Check.state("records", () -> x.records(0, 1));
        Check.index("records", () -> x.records(3, 1));
        Check.same("visible", x.visible(0), 1);
        Check.same("row", x.row(0, 0, 1), 10);
        Check.same("lineage", x.lineage(0, 0, -1), 1);
        Check.same("one pass", x.onePass() ? 1 : 0, 1);
        Check.same("operator", x.operator(1, 0), 9);
        Check.same("close", x.close(0) ? 1 : 0, 0);
        Check.state("give", () -> x.give(0, 5, 1, 1, 1, 1));
        Check.same("latest", x.told(5), 1);
        Check.same("reopen", x.reopen(), 1);
        Check.same("the next mark has its own number", x.mark(), 3);
        Check.settle(x);
        Check.same("latest", x.told(5), 3);
        Check.same("rows stay", x.visible(0), 1);
        House y = Check.house(PLAIN);
        y.start(1, 1, 1);
        y.crash(0);
        y.mark();
        y.turn(100);
        Check.same("give to a house that is down", y.give(0, 5, 1, 1, 0, 0), 0);
        Check.same("close of a house that is down", y.close(0) ? 1 : 0, 1);
        y.reopen();
        Check.finish(y);
        Check.same("it was kept", Check.rows(y, 0, 2), "5:1,1<0>");
    }

    /** Marks that are given up have numbers as well, and nothing of them is left. */
    private static void givenUp() {
        House f = Check.house("a = source 0 (k v) lag 99; f = fold a by k span 4 step 2 : n = count; output a; output f; output a; output a;");
        Check.give(f, Check.row(0, 5, 1, 10), Check.row(0, 6, 1, 10));
        f.start(2, 8, 3);
        Check.settle(f);
        for (int i = 0; i < 5; i++) {
            f.mark();
            // the fold has its part, while an output has not
            for (int k = 0; k < 1000 && f.told(6) != 0 && f.task(1, 8) + f.task(2, 8) < 2; k++) {
                f.turn(1);
            }
            f.fail();
            Check.settle(f);
        }
        f.mark();
        Check.settle(f);
        Check.same("the latest mark", f.told(5) > 5 ? 1 : 0, 1);
        Check.same("spans of the mark", f.records(1, 1), 3);
        Check.finish(f);
        for (int o = 0; o < 4; o++) {
            Check.same("rows of output " + o, Check.rows(f, o, 2), o == 1 ? "5:1,1<0> 7:1,2<0,1> 9:1,1<1>" : "5:1,10<0> 6:1,10<1>");
        }
        House x = Check.house(PLAIN);
        x.start(1, 1, 1);
        Check.same("a mark", x.mark(), 1);
        Check.same("fail", x.fail(), 0);
        Check.same("none is open", x.told(6), 0);
        Check.same("a mark", x.mark(), 2);
        Check.settle(x);
        Check.same("latest", x.told(5), 2);
        Check.same("a mark", x.mark(), 3);
        Check.same("rescale", x.rescale(3), 2);
        Check.same("latest", x.told(5), 2);
        Check.same("a mark", x.mark(), 4);
        x.start(1, 1, 1);
        Check.same("a mark of another run", x.mark(), 1);
    }

    /** A channel whose barrier was taken is blocked till the others' are. */
    private static void aligning() {
        House x = Check.house("a = source 0 (k) lag 9; b = source 1 (k) lag 9; u = union a b; output u;");
        for (int i = 0; i < 3; i++) {
            x.give(0, i, i, 0, 0, 0);
            x.give(1, i, 10 + i, 0, 0, 0);
        }
        // a A, b B, u C, output D
        x.start(1, 8, Check.seedFor(4, "AACCCBBCDD"));
        x.mark();
        x.turn(2);
        Check.same("the source's part", x.task(0, 8), 1);
        Check.same("a barrier and a row", x.channel(0, 2), 2);
        x.turn(1);
        Check.same("it is blocked", x.channel(0, 4), 1);
        Check.same("no part yet", x.task(2, 8), 0);
        x.turn(2);
        Check.same("nothing is taken from it", x.channel(0, 2), 1);
        Check.same("both were idle", x.told(4), 2);
        x.turn(3);
        Check.same("not blocked any more", x.channel(0, 4) + x.channel(1, 4), 0);
        Check.same("its part", x.task(2, 8), 1);
        Check.same("the barrier went on", x.channel(2, 2), 1);
        Check.same("no rows went on", x.channel(2, 5), 0);
        x.turn(1);
        Check.same("sealed", x.told(5), 1);
        Check.same("no part of an open mark", x.task(0, 8), 0);
    }

    private static void recordsOfMarks() {
        House x = Check.house("a = source 0 (k v) lag 0; b = source 1 (l w) lag 100; f = fold a by k span 4 step 2 : n = count;"
            + "g = fold a by k gap 5 : n = count; j = join a b by k l within 0 50; o = look a b by v w; m = match a by k : v then v within 9;"
            + "u = unique a by k within 9; output f;");
        x.start(3, 4, 4);
        Check.same("without a mark", x.records(2, 1), 0);
        Check.give(x, Check.row(0, 10, 1, 5), Check.row(0, 11, 1, 5), Check.row(0, 12, 2, 5), Check.row(1, 3, 2, 5), Check.row(1, 4, 2, 5));
        Check.settle(x);
        Check.same("without a mark", x.records(2, 1), 0);
        x.mark();
        Check.settle(x);
        // W of f is 11: KEY 1 has spans to 13 alone, KEY 2 spans to 13 and 15
        long[][] due = {{2, 1, 1}, {2, 2, 2}, {2, 3, 0}, {3, 1, 1}, {3, 2, 1}, {4, 1, 2}, {4, 2, 3}, {5, 5, 5}, {5, 1, 0},
            // rows 10 and 11 are gone through: of the match a PARTIAL one is left, of the unique a KEY
            {6, 1, 1}, {6, 2, 1}, {7, 1, 1}, {7, 2, 1}};
        for (long[] d : due) {
            Check.same("records(" + d[0] + ", " + d[1] + ")", x.records((int) d[0], d[1]), d[2]);
        }
        Check.argument("of a source", () -> x.records(0, 1));
        Check.argument("of an output", () -> x.records(8, 1));
        Check.index("of no operator", () -> x.records(9, 1));
        x.close(0);
        x.close(1);
        Check.settle(x);
        Check.same("the latest mark's are told", x.records(2, 2), 2);
        for (int parallel = 1; parallel <= 4; parallel++) {
            Check.same("rescale", x.rescale(parallel), 1);
            long held = 0;
            for (int t = 0; t < x.told(1); t++) {
                held += x.task(t, 0) == 4 ? x.task(t, 4) : 0;
            }
            Check.same("rows of the join", held, 5);
            Check.same("the latest mark's are told", x.records(4, 2), 3);
        }
    }

    /** With another parallel than the mark's what went aside is told of part 0. */
    private static void asideOfParts() {
        House x = Check.house("a = source 0 (k) lag 0; f = filter a : 1 / k; output f;");
        for (int i = 0; i < 6; i++) {
            x.give(0, i, i < 3 ? 0 : 1, 0, 0, 0);
        }
        x.start(2, 8, 2);
        Check.settle(x);
        x.mark();
        Check.settle(x);
        aside(x, 2, 1);
        x.fail();
        aside(x, 2, 1);
        x.rescale(3);
        aside(x, 3, 0, 0);
        x.fail();
        aside(x, 3, 0, 0);
        x.rescale(2);
        aside(x, 2, 1);
        x.rescale(1);
        aside(x, 3);
        x.mark();
        Check.settle(x);
        x.rescale(2);
        aside(x, 3, 0);
        x.start(4, 8, 2);
        Check.settle(x);
        x.mark();
        Check.settle(x);
        aside(x, 1, 1, 1, 0);
        for (int i = 0; i < 3; i++) {
            x.rescale(2);
            x.mark();
            Check.settle(x);
            aside(x, 3, 0);
        }
        x.fail();
        aside(x, 3, 0);
    }

    private static void aside(House x, long... due) {
        for (int p = 0; p < due.length; p++) {
            Check.same("aside of part " + p + " of " + due.length, x.task(1 + p, 6), due[p]);
        }
    }

    /** The seed's number goes on over a failure. */
    private static void goingOn() {
        House x = Check.house(PLAIN);
        for (int i = 0; i < 5; i++) {
            x.give(0, i + 3, i, 0, 0, 0);
        }
        x.start(1, 8, Check.seedFor(2, "AAABBBABAA"));
        x.turn(3);
        x.fail();
        x.turn(3);
        Check.same("idle turns of the output", x.told(4), 3);
        x.turn(1);
        Check.same("the first row again", x.task(0, 7), 1);
        x.turn(3);
        Check.same("rows read", x.task(0, 5), 3);
        Check.same("things taken", x.task(1, 5), 1);
    }
}
