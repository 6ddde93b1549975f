/** Promises 8, 9, 15 to 20, 22: a run turn by turn, its layout, and what came out. */
public final class RunTest {
    private static final long ENDLESS = 1L << 40;
    private static final String PLAIN = "a = source 0 (k v) lag 2; output a;";

    public static void main(String[] args) {
        wrongCalls();
        turnByTurn();
        layout();
        dealing();
        groups();
        roundAndRound();
        startingAnew();
        watermarks();
        onePass();
        Check.end();
    }

    private static void wrongCalls() {
        House x = Check.house(PLAIN);
        Check.argument("parallel 0", () -> x.start(0, 1, 1));
        Check.argument("parallel 5", () -> x.start(5, 1, 1));
        Check.argument("room 0", () -> x.start(1, 0, 1));
        Check.argument("room 9", () -> x.start(1, 9, 1));
        Check.same("no run", x.told(1), 0);
        Check.state("turn without a run", () -> x.turn(0));
        Check.index("task without a run", () -> x.task(0, 0));
        Check.index("channel without a run", () -> x.channel(0, 0));
        Check.state("records without a run", () -> x.records(0, 0));
        Check.index("records of no operator", () -> x.records(2, 0));
        Check.same("nothing is visible", x.visible(0), 0);
        Check.index("output 1", () -> x.visible(1));
        Check.index("output -1", () -> x.visible(-1));
        Check.same("tasks", x.start(4, 8, 1), 2);
        Check.argument("0 turns", () -> x.turn(0));
        Check.argument("5001 turns", () -> x.turn(5001));
        Check.same("5000 turns", x.turn(5000), 0);
        Check.same("turns", x.told(3), 5000);
        Check.same("idle ones", x.told(4), 5000);
        Check.index("task 2", () -> x.task(2, 99));
        Check.index("task -1", () -> x.task(-1, 0));
        Check.argument("what 9 of a task", () -> x.task(0, 9));
        Check.argument("what -1 of a task", () -> x.task(0, -1));
        Check.index("channel 1", () -> x.channel(1, 99));
        Check.index("channel -1", () -> x.channel(-1, 0));
        Check.argument("what 6 of a channel", () -> x.channel(0, 6));
        Check.argument("what -1 of a channel", () -> x.channel(0, -1));
        Check.argument("records of a source", () -> x.records(0, 0));
        Check.argument("records of an output", () -> x.records(1, 0));
    }

    private static void task(House of, int task, long... due) {
        House x = of.twin();
        for (int what = 0; what < due.length; what++) {
            Check.same("turn " + x.told(3) + ": task(" + task + ", " + what + ")", x.task(task, what), due[what]);
        }
    }

    private static void channel(House of, int channel, long... due) {
        House x = of.twin();
        for (int what = 0; what < due.length; what++) {
            Check.same("turn " + x.told(3) + ": channel(" + channel + ", " + what + ")", x.channel(channel, what), due[what]);
        }
    }

    private static void told(House of, int... due) {
        House x = of.twin();
        for (int what = 0; what < due.length; what++) {
            Check.same("turn " + x.told(3) + ": told(" + what + ")", x.told(what), due[what]);
        }
    }

    /** Task 0 is the source, task 1 the output, and their channel holds one thing. */
    private static void turnByTurn() {
        House x = Check.house(PLAIN);
        Check.give(x, Check.row(0, 5, 1, 10), Check.row(0, 3, 2, 20), Check.row(0, 2, 3, 30));
        x.start(1, 1, Check.seedFor(2, "AABBABAAAABABAB"));
        task(x, 0, 0, 0, -1, 0, 0, 0, 0, 0, 0);
        task(x, 1, 1, 0, -1, 0, 0, 0, 0, -1, 0);
        channel(x, 0, 0, 1, 0, -1, 0, 0);
        Check.same("a row is read", x.turn(1), 1);
        task(x, 0, 0, 0, 2, 1, 0, 1, 0, 1, 0);
        channel(x, 0, 0, 1, 1, -1, 0, 1);
        Check.same("the watermark has no room", x.turn(1), 0);
        told(x, 2, 2, 1, 2, 0, 0, 0, 0, 0, 0, 0, 0, 1, 1, 0);
        Check.same("the row is taken", x.turn(1), 1);
        task(x, 1, 1, 0, -1, 0, 1, 1, 0, -1, 0);
        told(x, 2, 2, 1, 3, 0, 0, 0, 0, 0, 0, 0, 1, 1, 1, 0);
        Check.same("an idle turn", x.turn(1), 0);
        Check.same("idle ones", x.told(4), 1);
        Check.same("the watermark goes, the second row is read", x.turn(1), 1);
        task(x, 0, 0, 0, 2, 1, 0, 2, 0, 2, 0);
        channel(x, 0, 0, 1, 1, -1, 0, 1);
        Check.same("the watermark is taken", x.turn(1), 1);
        task(x, 1, 1, 0, 2, 0, 1, 2, 0, -1, 0);
        channel(x, 0, 0, 1, 0, 2, 0, 1);
        Check.same("the second row goes, the third is late", x.turn(1), 1);
        task(x, 0, 0, 0, 2, 0, 0, 3, 1, 3, 0);
        channel(x, 0, 0, 1, 1, 2, 0, 2);
        Check.same("no more rows", x.turn(1), 0);
        Check.same("idle ones", x.told(4), 2);
        x.close(0);
        Check.same("the end goes to the box", x.turn(1), 0);
        task(x, 0, 0, 0, ENDLESS, 1, 0, 3, 1, 3, 0);
        Check.same("idle ones", x.told(4), 2);
        Check.same("a mark", x.mark(), 1);
        Check.same("it has to wait", x.turn(1), 0);
        task(x, 0, 0, 0, ENDLESS, 1, 0, 3, 1, 3, 0);
        Check.same("the second row is taken", x.turn(1), 1);
        Check.same("the end goes, and the barrier is made", x.turn(1), 0);
        task(x, 0, 0, 0, ENDLESS, 1, 0, 3, 1, 3, 1);
        told(x, 2, 2, 1, 12, 2, 0, 1, 0, 0, 0, 0, 2, 2, 1, 0);
        Check.same("the end is taken", x.turn(1), 1);
        task(x, 1, 1, 0, ENDLESS, 0, 2, 4, 0, -1, 0);
        Check.same("the barrier goes, nothing is left to do", x.turn(1), 0);
        Check.same("idle ones", x.told(4), 3);
        Check.same("nothing is visible", x.visible(0), 0);
        Check.same("not right yet", x.onePass() ? 1 : 0, 0);
        Check.same("the barrier is taken", x.turn(1), 1);
        told(x, 2, 2, 1, 15, 3, 1, 0, 0, 0, 0, 0, 0, 2, 1, 0);
        task(x, 0, 0, 0, ENDLESS, 0, 0, 3, 1, 3, 0);
        Check.same("rows", Check.rows(x, 0, 2), "3:2,20<1> 5:1,10<0>");
        Check.same("right", x.onePass() ? 1 : 0, 1);
        Check.index("row 2", () -> x.row(0, 2, -1));
        Check.index("row -1", () -> x.row(0, -1, -1));
        Check.index("output 1", () -> x.row(1, 0, -1));
        Check.index("column 2", () -> x.row(0, 0, 2));
        Check.index("column -2", () -> x.row(0, 0, -2));
        Check.index("lineage of row 2", () -> x.lineage(0, 2, -1));
        Check.index("lineage of output 1", () -> x.lineage(1, 0, -1));
        Check.index("a second one", () -> x.lineage(0, 0, 1));
        Check.index("one before the first", () -> x.lineage(0, 0, -2));
    }

    /** Who has how many tasks, and which channels there are between them. */
    private static void layout() {
        House x = Check.house("a = source 0 (k) lag 0; b = source 1 (l) lag 0; f = filter a : 1; m = map f : k = k;"
            + "j = join m b by k l within 0 0; t = top 1 j by k span 1; u = union f f; output t;");
        Check.same("tasks", x.start(2, 3, 0), 12);
        // a 0, b 1, f 2 3, m 4 5, j 6 7, t 8, u 9 10, output 11
        int[][] tasks = {{0, 0}, {1, 0}, {2, 0}, {2, 1}, {3, 0}, {3, 1}, {4, 0}, {4, 1}, {5, 0}, {6, 0}, {6, 1}, {7, 0}};
        for (int i = 0; i < tasks.length; i++) {
            task(x, i, tasks[i][0], tasks[i][1]);
        }
        int[][] channels = {{0, 2}, {0, 3}, {2, 4}, {3, 5}, {4, 6}, {5, 6}, {1, 6}, {4, 7}, {5, 7}, {1, 7}, {6, 8}, {7, 8},
            {2, 9}, {2, 9}, {3, 10}, {3, 10}, {8, 11}};
        Check.same("channels", x.told(2), channels.length);
        for (int i = 0; i < channels.length; i++) {
            channel(x, i, channels[i][0], channels[i][1], 0, -1, 0, 0);
        }
        Check.same("tasks of one each", x.start(1, 3, 0), 8);
        Check.same("channels of one each", x.told(2), 8);
    }

    /** From one task to several ones rows go round; watermarks go to all. */
    private static void dealing() {
        House x = Check.house("a = source 0 (k) lag 0; f = filter a : 1 / k; output f;");
        for (int i = 0; i < 7; i++) {
            x.give(0, i, i % 3 == 0 ? 0 : 1, 0, 0, 0);
        }
        x.start(3, 8, 1);
        Check.settle(x);
        for (int p = 0; p < 3; p++) {
            // rows 0 3 6, 1 4, 2 5, and six watermarks, as the first row makes none
            Check.same("rows through channel " + p, x.channel(p, 5), p == 0 ? 3 : 2);
            Check.same("things taken by part " + p, x.task(1 + p, 5), 6 + (p == 0 ? 3 : 2));
            Check.same("aside in part " + p, x.task(1 + p, 6), p == 0 ? 3 : 0);
            Check.same("watermark of part " + p, x.task(1 + p, 2), 5);
        }
        Check.same("pending", x.told(11), 4);
        Check.same("sets", x.told(12), 7);
    }

    /** A row of a KEYED operator goes to the part of its GROUP. */
    private static void groups() {
        long[] keys = {0, 1, 2, 3, -1, 1L << 63, 12345678901L, 0x5555555555555555L};
        for (long key : keys) {
            for (int parallel = 1; parallel <= 4; parallel++) {
                House x = Check.house("a = source 0 (v k) lag 0; u = unique a by k within 1; output u;");
                x.give(0, 1, 5, key, 0, 0);
                x.start(parallel, 2, 3);
                Check.settle(x);
                int group = (int) (key * 0x9E3779B97F4A7C15L >>> 60);
                for (int p = 0; p < parallel; p++) {
                    Check.same("key " + key + " in part " + p, x.task(1 + p, 4), p == group * parallel / 16 ? 1 : 0);
                }
            }
        }
    }

    /** An output with two inputs' tasks takes from one behind the other. */
    private static void roundAndRound() {
        House x = Check.house("a = source 0 (k) lag 1000; b = source 1 (k) lag 1000; u = union a b; output u;");
        for (int i = 0; i < 4; i++) {
            x.give(0, i, i, 0, 0, 0);
            x.give(1, i, 10 + i, 0, 0, 0);
        }
        // a A, b B, u C, output D
        x.start(1, 8, Check.seedFor(4, "BAAACCCC"));
        x.turn(4);
        channel(x, 0, 0, 2, 3, -1, 0, 3);
        channel(x, 1, 1, 2, 1, -1, 0, 1);
        x.turn(1);
        Check.same("first from the first one", x.channel(0, 2), 2);
        x.turn(1);
        Check.same("then from the second one", x.channel(1, 2), 0);
        x.turn(2);
        Check.same("then from the first one alone", x.channel(0, 2), 0);
        Check.same("rows that went on", x.channel(2, 5), 4);
    }

    private static void startingAnew() {
        House x = Check.house(PLAIN);
        Check.give(x, Check.row(0, 5, 1, 10));
        x.start(1, 1, 7);
        Check.finish(x);
        x.mark();
        x.fail();
        Check.same("rows", x.visible(0), 1);
        Check.same("tasks", x.start(2, 2, 7), 2);
        told(x, 2, 2, 1, 0, 0, 0, 0, 0, 0, 0, 0, 0, 0, 1, 0);
        Check.same("nothing is visible", x.visible(0), 0);
        Check.same("from the beginning", x.task(0, 7), 0);
        Check.finish(x);
        Check.same("first mark", x.told(5), 1);
        Check.same("rows", Check.rows(x, 0, 2), "5:1,10<0>");
        for (int seed = 0; seed < 20; seed++) {
            House y = Check.house("a = source 0 (k v) lag 9; b = source 1 (l w) lag 9; f = fold a by k gap 5 : n = count;"
                + "j = join a b by k l within 0 9; output j;");
            for (int i = 0; i < 9; i++) {
                y.give(0, i, 1, i, 0, 0);
                y.give(1, i, 1, i, 0, 0);
            }
            y.start(1 + seed % 3, 1, seed);
            y.turn(50 + 10 * seed);
            y.mark();
            y.turn(5 + 10 * seed);
            y.start(1 + seed % 4, 1, seed);
            for (int t = 0; t < y.told(1); t++) {
                task(y, t, y.task(t, 0), y.task(t, 1), -1, 0, 0, 0, 0, y.task(t, 0) < 2 ? 0 : -1, 0);
            }
            for (int c = 0; c < y.told(2); c++) {
                channel(y, c, y.channel(c, 0), y.channel(c, 1), 0, -1, 0, 0);
            }
            told(y, 5, y.told(1), y.told(2), 0, 0, 0, 0, 0, 0, 0, 0, 0, 0, 1, 0);
        }
    }

    /** A task's watermark is the least of its channels; a fold's rows come before its own goes on. */
    private static void watermarks() {
        House x = Check.house("a = source 0 (k) lag 0; b = source 1 (k) lag 5; u = union a b;"
            + "f = fold u by k span 5 step 5 : n = count; output f;");
        x.give(0, 20, 1, 0, 0, 0);
        x.start(1, 8, 9);
        Check.settle(x);
        Check.same("source a", x.task(0, 2), 19);
        Check.same("union", x.task(2, 2), -1);
        x.give(1, 13, 1, 0, 0, 0);
        Check.settle(x);
        Check.same("source b", x.task(1, 2), 7);
        Check.same("union", x.task(2, 2), 7);
        Check.same("fold", x.task(3, 2), 7);
        Check.same("spans", x.task(3, 4), 2);
        Check.same("pending", x.task(4, 4), 0);
        x.give(1, 20, 1, 0, 0, 0);
        Check.settle(x);
        Check.same("fold", x.task(3, 2), 14);
        Check.same("spans", x.task(3, 4), 1);
        Check.same("pending", x.task(4, 4), 1);
        x.close(1);
        Check.settle(x);
        Check.same("fold", x.task(3, 2), 19);
        x.close(0);
        Check.settle(x);
        Check.same("output", x.task(4, 2), ENDLESS);
        Check.same("pending", x.told(11), 2);
    }

    private static void onePass() {
        House x = Check.house("a = source 0 (k) lag 0; output a; output a;");
        Check.same("nothing is given, nothing is visible", x.onePass() ? 1 : 0, 1);
        x.give(0, 5, 1, 0, 0, 0);
        Check.same("nothing is visible", x.onePass() ? 1 : 0, 0);
        x.start(1, 8, 3);
        Check.settle(x);
        x.mark();
        Check.settle(x);
        Check.same("open sources are right as well", x.onePass() ? 1 : 0, 1);
        x.give(0, 4, 1, 0, 0, 0);
        Check.same("a late row changes nothing", x.onePass() ? 1 : 0, 1);
        x.give(0, 5, 1, 0, 0, 0);
        Check.same("an equal row counts", x.onePass() ? 1 : 0, 0);
        House big = Check.house("a = source 0 (k) lag 0; b = source 1 (l) lag 0; j = join a b by k l within 0 0;"
            + "f = filter j : 0; output f;");
        for (int i = 0; i < 64; i++) {
            big.give(0, 5, 1, 0, 0, 0);
            if (i < 58) {
                big.give(1, 5, 1, 0, 0, 0);
            }
        }
        Check.same("3712 rows of a join", big.onePass() ? 1 : 0, 1);
        for (int i = 58; i < 64; i++) {
            big.give(1, 5, 1, 0, 0, 0);
        }
        Check.same("4096 rows of a join are too many", big.onePass() ? 1 : 0, 0);
        for (int folds = 7; folds <= 8; folds++) {
            StringBuilder text = new StringBuilder("a = source 0 (k) lag 0; ");
            for (int i = 0; i < folds; i++) {
                text.append((char) ('f' + i)).append(" = fold a by k span 8 step 1 : n = count; ");
            }
            House x8 = Check.house(text + "z = filter f : 0; output z;");
            for (int i = 0; i < 64; i++) {
                x8.give(0, 5, i, 0, 0, 0);
            }
            Check.same("512 rows of " + folds + " folds each", x8.onePass() ? 1 : 0, folds == 7 ? 1 : 0);
        }
    }
}
