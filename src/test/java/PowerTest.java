/** Part 5 of the document at its edges: marks, the disk, the power, and a run that begins again (promises 8, 10 to 15, 19 to 22). */
public final class PowerTest {
    private static final long ENDLESS = 1L << 40;
    private static final String PLAIN = "a = source 0 (k v) lag 2; output a;";
    /** Tasks for PARALLEL 2: a 0, b 1, f 2 3, u 4 5, j 6 7, t 8, outputs 9 and 10. */
    private static final String WIDE = "a = source 0 (k v) lag 2; b = source 1 (l w) lag 2; f = filter a : v; u = unique f by k within 4; j = join f b by k l within - 5 5;"
        + "t = top 1 u by v span 7; output j; output t;";
    private static final int WRITES = 12;

    public static void main(String[] args) {
        partsAndSeals();
        whateverWasToldBefore();
        partsOfAMarkThatIsGivenUp();
        tillTheTurnByWhichItFails();
        preparedBeforeTheSeal();
        crashBeforeARun();
        numbersOfMarks();
        sealedWhenAllHaveTheirParts();
        behindThoseThatWereVisible();
        beginsAgainEmpty();
        watermarkInTheBox();
        fromTheLatestMark();
        otherParallel();
        markByMark();
        togetherInOneTask();
        recordsOfTheLatest();
        toldBeforeAndBehind();
        Check.end();
    }

    private static House wide() {
        House x = Check.house(WIDE);
        for (int i = 0; i < 12; i++) {
            x.give(0, 3 * i, i % 3, i, 0, 0);
            x.give(1, 3 * i + 1, i % 3, i, 0, 0);
        }
        x.start(2, 3, 17);
        Check.settle(x);
        return x;
    }

    /** "POWER FAILS when n more parts and seals were written": a mark has eleven parts and a seal. */
    private static void partsAndSeals() {
        for (int n = 0; n <= 2 * WRITES + 1; n++) {
            House x = wide();
            x.crash(n);
            int sealed = 0;
            while (x.told(9) == 0 && sealed < 5) {
                Check.same("a mark", x.mark(), sealed + 1);
                for (int i = 0; i < 20 && x.told(6) != 0 && x.told(9) == 0; i++) {
                    x.turn(100);
                }
                sealed = x.told(5);
            }
            Check.same("marks sealed before the power fails by crash(" + n + ")", sealed, n / WRITES);
            Check.same("down", x.told(9), 1);
            Check.same("the open mark", x.told(6), sealed + 1);
            if (n == WRITES - 1) {
                Check.same("all rows are prepared when the seal is not written", x.told(10) > 0 && x.told(11) == 0 ? 1 : 0, 1);
            }
            Check.same("reopen", x.reopen(), sealed);
            Check.same("none is open", x.told(6), 0);
            Check.same("none is prepared", x.told(10), 0);
            Check.same("began again", x.told(7), 1);
            Check.finish(x);
            Check.same("the mark that was open has a number, too", x.told(5), sealed + 2);
            Check.same("each row counts once", x.onePass() ? 1 : 0, 1);
        }
    }

    /** "whatever was told before; NONE: never"; "without a failure to come" */
    private static void whateverWasToldBefore() {
        int[][] told = {{0, 12}, {11, -1}, {3, 13}, {0, Integer.MAX_VALUE}, {-1, -1}};
        for (int[] t : told) {
            House x = wide();
            x.crash(t[0]);
            x.crash(t[1]);
            x.mark();
            Check.settle(x);
            Check.same("sealed with crash(" + t[1] + ") behind crash(" + t[0] + ")", x.told(5), 1);
            Check.same("not down", x.told(9), 0);
        }
        House y = wide();
        y.crash(-1);
        y.crash(11);
        y.mark();
        y.turn(2000);
        Check.same("the seal is not written", y.told(5), 0);
        Check.same("down", y.told(9), 1);
        y.reopen();
        for (int i = 0; i < 3; i++) {
            y.mark();
            Check.settle(y);
        }
        Check.same("no failure is to come", y.told(5), 4);
        // it is of those that are written from now on
        House z = wide();
        z.mark();
        Check.settle(z);
        z.crash(1);
        z.mark();
        z.turn(2000);
        Check.same("down", z.told(9), 1);
        Check.same("the first mark", z.told(5), 1);
    }

    private static void partsOfAMarkThatIsGivenUp() {
        House x = Check.house(PLAIN);
        x.start(1, 1, Check.seedFor(2, "AAABBB"));
        x.crash(2);
        for (int i = 0; i < 2; i++) {
            x.mark();
            x.turn(1);
            Check.same("a source's part", x.task(0, 8), 1);
            x.fail();
        }
        x.mark();
        Check.same("not down", x.told(9), 0);
        x.turn(1);
        Check.same("the third part", x.told(9), 1);
        Check.same("no mark", x.reopen(), 0);
    }

    /** "n turns, 1 .. 5000, or up to one by which the power fails" */
    private static void tillTheTurnByWhichItFails() {
        for (int n = 0; n < WRITES; n++) {
            House x = wide();
            for (int i = 0; i < 5; i++) {
                x.give(0, 50 + i, 1, 1, 0, 0);
            }
            x.crash(n);
            x.mark();
            House y = x.twin();
            int took = x.turn(5000);
            int one = 0;
            int turns = 0;
            while (y.told(9) == 0 && turns < 300) {
                one += y.turn(1);
                turns++;
            }
            Check.same("taken by then", took, one);
            Check.same("turns by then", x.told(3), y.told(3));
            Check.same("the same behind it", x.picture(), y.picture());
        }
    }

    /** "the next one is not": neither the part nor, of an output, its rows' being prepared, nor their being visible */
    private static void preparedBeforeTheSeal() {
        int[] prepared = {0, 0, 1};
        for (int n = 0; n <= 2; n++) {
            House x = Check.house(PLAIN);
            x.give(0, 5, 1, 10, 0, 0);
            x.start(1, 8, 4);
            Check.settle(x);
            x.crash(n);
            x.mark();
            x.turn(100);
            Check.same("down", x.told(9), 1);
            Check.same("prepared", x.told(10), prepared[n]);
            Check.same("pending", x.told(11), 1 - prepared[n]);
            Check.same("visible", x.visible(0), 0);
            Check.same("not right", x.onePass() ? 1 : 0, 0);
            x.reopen();
            Check.same("they go", x.told(10) + x.told(11), 0);
            Check.finish(x);
            Check.same("rows", Check.rows(x, 0, 2), "5:1,10<0>");
        }
    }

    private static void crashBeforeARun() {
        House x = new House();
        x.crash(2);
        Check.feed(x, PLAIN);
        x.job();
        x.start(1, 1, 1);
        x.mark();
        x.turn(100);
        Check.same("the seal is not written", x.told(9), 1);
        x.clear();
        Check.same("not down", x.told(9), 0);
        Check.state("reopen", () -> x.reopen());
        Check.feed(x, PLAIN);
        x.job();
        x.start(1, 1, 1);
        x.mark();
        x.turn(100);
        Check.same("no failure is to come", x.told(5), 1);
    }

    /** "MARKS are numbered 1, 2, .. since start(), those that are given up, too." */
    private static void numbersOfMarks() {
        House x = Check.house(PLAIN);
        x.start(1, 1, 1);
        Check.same("none", x.told(5) + x.told(6), 0);
        for (int i = 1; i <= 9; i++) {
            Check.same("mark", x.mark(), i);
            Check.same("the open one", x.told(6), i);
            Check.state("another one", () -> x.mark());
            if (i % 3 == 0) {
                Check.same("fail", x.fail(), i - 1);
            } else if (i % 3 == 1) {
                Check.same("rescale", x.rescale(i % 4 + 1), i == 1 ? 0 : i - 2);
            } else {
                Check.settle(x);
                Check.same("sealed", x.told(5), i);
            }
            Check.same("none is open", x.told(6), 0);
        }
        x.start(1, 1, 1);
        Check.same("none", x.told(5), 0);
        Check.same("mark", x.mark(), 1);
    }

    /** "One is OPEN from mark() on, till all tasks have their PARTS" */
    private static void sealedWhenAllHaveTheirParts() {
        House x = wide();
        x.mark();
        int most = 0;
        for (int i = 0; i < 300 && x.twin().told(6) != 0; i++) {
            int parts = 0;
            House y = x.twin();
            for (int t = 0; t < 11; t++) {
                parts += (int) y.task(t, 8);
            }
            Check.same("parts do not go", parts >= most ? 1 : 0, 1);
            Check.same("not all of them", parts < 11 ? 1 : 0, 1);
            Check.same("nothing is visible", y.visible(0) + y.visible(1), 0);
            most = parts;
            x.turn(1);
        }
        Check.same("all but the last one", most, 10);
        Check.same("latest", x.told(5), 1);
        House y = x.twin();
        for (int t = 0; t < 11; t++) {
            Check.same("no part of an open mark", y.task(t, 8), 0);
        }
        Check.same("rows are visible", y.visible(0) > 0 && y.visible(1) > 0 ? 1 : 0, 1);
        Check.same("none is prepared", y.told(10), 0);
        // an operator whose rows nobody takes has its part, too
        House z = Check.house("a = source 0 (k) lag 0; f = filter a : 1; output a;");
        z.start(1, 8, Check.seedFor(3, "ACCCB"));
        z.mark();
        z.turn(4);
        Check.same("the filter has not its part yet", z.told(6), 1);
        z.turn(1);
        Check.same("sealed", z.told(5), 1);
    }

    /** "of each output by order (equal ones as they came), behind those that were visible" */
    private static void behindThoseThatWereVisible() {
        House x = Check.house("a = source 0 (k v) lag 100; output a;");
        x.start(1, 8, 3);
        int[][] rounds = {{50, 40, 60, 40}, {45, 10, 45}, {40, 99}};
        for (int[] round : rounds) {
            for (int time : round) {
                x.give(0, time, 1, 1, 0, 0);
            }
            Check.settle(x);
            x.mark();
            Check.settle(x);
        }
        x.mark();
        Check.settle(x);
        Check.same("rows", Check.rows(x, 0, 2), "40:1,1<1> 40:1,1<3> 50:1,1<0> 60:1,1<2> 10:1,1<5> 45:1,1<4> 45:1,1<6> 40:1,1<7> 99:1,1<8>");
        Check.same("right in whatever order", x.onePass() ? 1 : 0, 1);
    }

    /** "boxes and channels are empty, watermarks of channels and tasks -1; states .. as at the beginning without one" */
    private static void beginsAgainEmpty() {
        for (int how = 0; how < 3; how++) {
            House x = Check.house(WIDE);
            for (int i = 0; i < 12; i++) {
                x.give(0, 3 * i, i % 3, i, 0, 0);
                x.give(1, 3 * i + 1, i % 3, i, 0, 0);
            }
            x.start(2, 1, 17);
            x.turn(100);
            x.mark();
            if (how == 2) {
                x.crash(2);
                x.turn(300);
                Check.same("down", x.told(9), 1);
            } else {
                x.turn(5);
            }
            int turns = x.told(3);
            int idle = x.told(4);
            int sets = x.told(12);
            Check.same("the beginning", how == 0 ? x.fail() : how == 1 ? x.rescale(2) : x.reopen(), 0);
            Check.same("turns since start()", x.told(3), turns);
            Check.same("idle ones since start()", x.told(4), idle);
            Check.same("sets since start()", x.told(12), sets);
            Check.same("began again", x.told(7), 1);
            Check.same("pending, prepared", x.told(10) + x.told(11), 0);
            Check.same("no mark", x.told(5) + x.told(6), 0);
            for (int t = 0; t < 11; t++) {
                House y = x.twin();
                long[] due = {y.task(t, 0), y.task(t, 1), -1, 0, 0, 0, 0, t < 2 ? 0 : -1, 0};
                for (int what = 0; what < due.length; what++) {
                    Check.same("task(" + t + ", " + what + ")", y.task(t, what), due[what]);
                }
            }
            for (int c = 0; c < x.told(2); c++) {
                House y = x.twin();
                long[] due = {y.channel(c, 0), y.channel(c, 1), 0, -1, 0, 0};
                for (int what = 0; what < due.length; what++) {
                    Check.same("channel(" + c + ", " + what + ")", y.channel(c, what), due[what]);
                }
            }
        }
    }

    /** "Each source first has its watermark in its box, if it is not -1." */
    private static void watermarkInTheBox() {
        for (int time = 2; time <= 4; time++) {
            House x = Check.house("a = source 0 (k v) lag 2; f = filter a : 1; u = unique a by k within 1; output a;");
            x.give(0, time, 1, 1, 0, 0);
            x.start(3, 8, 1);
            Check.settle(x);
            x.mark();
            Check.settle(x);
            x.fail();
            int w = time - 3;
            Check.same("watermark of the source", x.task(0, 2), w);
            Check.same("things in its box, for three, three and one", x.task(0, 3), w == -1 ? 0 : 7);
            Check.same("watermark of a filter", x.task(1, 2), -1);
            Check.same("watermark of its channel", x.channel(0, 3), -1);
            Check.settle(x);
            Check.same("watermark of a filter", x.task(1, 2), w);
            Check.same("things that the output took", x.task(7, 5), w == -1 ? 0 : 1);
            x.rescale(1);
            Check.same("things in its box, for one each", x.task(0, 3), w == -1 ? 0 : 3);
        }
        House x = Check.house(PLAIN);
        x.close(0);
        x.start(1, 1, 1);
        Check.settle(x);
        x.mark();
        Check.settle(x);
        x.fail();
        Check.same("an endless one", x.task(0, 2), ENDLESS);
        Check.same("in its box", x.task(0, 3), 1);
        Check.settle(x);
        Check.same("it came", x.task(1, 2), ENDLESS);
        Check.same("once", x.task(1, 5), 1);
    }

    private static void fromTheLatestMark() {
        House x = Check.house("a = source 0 (k v) lag 0; f = fold a by k span 10 step 10 : n = count; output f; output a;");
        x.start(1, 8, 1);
        x.give(0, 5, 1, 1, 0, 0);
        Check.settle(x);
        x.mark();
        Check.settle(x);
        x.give(0, 4, 1, 1, 0, 0);
        x.give(0, 6, 1, 1, 0, 0);
        Check.settle(x);
        x.mark();
        Check.settle(x);
        x.give(0, 8, 1, 1, 0, 0);
        Check.settle(x);
        x.mark();
        x.turn(1);
        Check.same("the latest is the second one", x.fail(), 2);
        Check.same("place", x.task(0, 7), 3);
        Check.same("late ones", x.task(0, 6), 1);
        Check.same("watermark", x.task(0, 2), 5);
        Check.same("a span", x.task(1, 4), 1);
        Check.same("visible", x.visible(1), 2);
        Check.same("again", x.fail(), 2);
        Check.finish(x);
        Check.same("rows of f", Check.rows(x, 0, 2), "9:1,3<0,2,3>");
        Check.same("rows of a", Check.rows(x, 1, 2), "5:1,1<0> 6:1,1<2> 8:1,1<3>");
    }

    /** "Each task has what belongs to it (by KEYS, also when PARALLEL is another one" */
    private static void otherParallel() {
        String text = "a = source 0 (k v) lag 0; u = unique a by k within 900; s = fold a by k span 8 step 1 : n = count; g = fold a by k gap 900 : n = count;"
            + "m = match a by k : 1 then 0 within 900; b = map a : l = k; j = join a b by k l within - 900 900; o = look a b by k l; output u;";
        for (int from = 1; from <= 4; from++) {
            for (int to = 1; to <= 4; to++) {
                House x = Check.house(text);
                for (int i = 0; i < 16; i++) {
                    x.give(0, 50, i, 0, 0, 0);
                }
                x.give(0, 51, 100, 0, 0, 0);
                x.start(from, 8, 6);
                Check.settle(x);
                x.mark();
                Check.settle(x);
                Check.same("rescale", x.rescale(to), 1);
                int[] keys = new int[4];
                for (int k = 0; k < 16; k++) {
                    keys[(int) ((k * 0x9E3779B97F4A7C15L >>> 60) * to / 16)]++;
                }
                keys[(int) ((100 * 0x9E3779B97F4A7C15L >>> 60) * to / 16)] += 100;
                // operator by operator: records of a KEY at 50, which is W, and of one at 51
                int[][] each = {{1, 1, 1}, {2, 7, 8}, {3, 1, 1}, {4, 1, 1}, {6, 2, 2}, {7, 1, 2}};
                House y = x.twin();
                for (int t = 0; t < y.told(1); t++) {
                    for (int[] e : each) {
                        if (y.task(t, 0) == e[0]) {
                            int p = (int) y.task(t, 1);
                            Check.same("records of operator " + e[0] + ", part " + p + " of " + to + ", before " + from, y.task(t, 4),
                                keys[p] % 100 * e[1] + keys[p] / 100 * e[2]);
                        }
                    }
                }
                Check.finish(x);
                Check.same("right", x.onePass() ? 1 : 0, 1);
            }
        }
    }

    /** Each mark has what there is when it is taken, and nothing of those before it. */
    private static void markByMark() {
        House x = Check.house("a = source 0 (k v) lag 0; u = unique a by k within 3; s = fold a by k span 4 step 2 : n = count; b = map a : l = k, w = v;"
            + "j = join a b by k l within - 2 2; output u;");
        x.start(2, 8, 5);
        // W is one less than the time; how many records of KEY 1 the unique, the fold and the join have then
        int[][] rounds = {{10, 1, 2, 2}, {10, 2, 2, 4}, {11, 2, 2, 6}, {12, 2, 2, 8}, {13, 1, 2, 6}, {30, 1, 2, 2}, {40, 1, 2, 2}};
        for (int i = 0; i < rounds.length; i++) {
            x.give(0, rounds[i][0], 1, i, 0, 0);
            Check.settle(x);
            Check.same("a mark", x.mark(), i + 1);
            Check.settle(x);
            Check.same("unique at mark " + (i + 1), x.records(1, 1), rounds[i][1]);
            Check.same("fold at mark " + (i + 1), x.records(2, 1), rounds[i][2]);
            Check.same("join at mark " + (i + 1), x.records(4, 1), rounds[i][3]);
            House y = x.twin();
            Check.same("fail", y.fail(), i + 1);
            long[] held = new long[6];
            for (int t = 0; t < y.told(1); t++) {
                held[(int) y.task(t, 0)] += y.task(t, 4);
            }
            Check.same("unique behind a failure", held[1], rounds[i][1]);
            Check.same("fold behind a failure", held[2], rounds[i][2]);
            Check.same("join behind a failure", held[4], rounds[i][3]);
            Check.finish(y);
            Check.same("right", y.onePass() ? 1 : 0, 1);
        }
    }

    /** Records of several tasks come together in one, not by their times: what is over goes, what is not stays. */
    private static void togetherInOneTask() {
        // KEY 0 has GROUP 0, KEY 1 has GROUP 9: of two tasks they are in the first and in the second one
        String[] operators = {"match a by k : v = 1 then v = 2 within 9", "unique a by k within 10", "join a b by k l within 0 9", "look b a by l k"};
        String[] due = {"59:0,50,59<0,4>", "45:1,1<1> 50:0,1<0> 60:0,7<5>"};
        for (int i = 0; i < operators.length; i++) {
            House x = Check.house("a = source 0 (k v) lag 20; b = source 1 (l w) lag 20; o = " + operators[i] + "; output o;");
            x.start(2, 8, 3);
            Check.give(x, Check.row(0, 50, 0, 1), Check.row(0, 45, 1, 1), Check.row(0, 71, 5, 0), Check.row(1, 71, 5, 0));
            Check.settle(x);
            Check.same(operators[i] + ": watermark", x.task(2, 2), 50);
            x.mark();
            Check.settle(x);
            Check.same("rescale", x.rescale(1), 1);
            long before = x.task(2, 4);
            x.give(0, 75, 5, 0, 0, 0);
            x.give(1, 75, 5, 0, 0, 0);
            Check.settle(x);
            Check.same(operators[i] + ": watermark", x.task(2, 2), 54);
            // of a match, a unique and a join what came of the row at 45 goes now; the rows at 75 come
            int[] more = {0, 0, 1, 2};
            Check.same(operators[i] + ": records", x.task(2, 4), before + more[i]);
            Check.give(x, Check.row(0, 59, 0, 2), Check.row(0, 60, 0, 7), Check.row(1, 59, 0, 4), Check.row(1, 55, 1, 4));
            Check.finish(x);
            if (i < 2) {
                Check.same(operators[i] + ": rows", rowsOfTwoKeys(x, i == 0 ? 3 : 2), due[i]);
            }
            Check.same(operators[i] + ": right", x.onePass() ? 1 : 0, 1);
        }
    }

    private static String rowsOfTwoKeys(House x, int columns) {
        StringBuilder rows = new StringBuilder();
        for (String row : Check.rows(x, 0, columns).split(" ")) {
            if (!row.contains(":5,")) {
                rows.append(rows.length() == 0 ? "" : " ").append(row);
            }
        }
        return rows.toString();
    }

    /** "How many RECORDS of a KEY the LATEST mark has .. all its tasks together; 0 without a mark." */
    private static void recordsOfTheLatest() {
        House x = Check.house("a = source 0 (k v) lag 0; u = unique a by k within 9; s = fold a by v span 8 step 1 : n = count; output u;");
        x.start(4, 8, 1);
        x.give(0, 5, 1, 7, 0, 0);
        Check.settle(x);
        Check.same("without a mark", x.records(1, 1), 0);
        x.mark();
        Check.same("of an open one", x.records(1, 1), 0);
        Check.settle(x);
        Check.same("of the latest", x.records(1, 1), 1);
        Check.same("spans", x.records(2, 7), 8);
        Check.same("of another KEY", x.records(1, 7), 0);
        x.give(0, 5, 1, 8, 0, 0);
        x.give(0, 5, 1, 7, 0, 0);
        Check.settle(x);
        Check.same("it is still that one", x.records(1, 1), 1);
        x.fail();
        Check.same("it is still that one", x.records(1, 1), 1);
        Check.settle(x);
        x.mark();
        Check.settle(x);
        Check.same("of the second one", x.records(1, 1), 3);
        Check.same("spans", x.records(2, 8), 8);
        x.rescale(1);
        Check.same("of the same one", x.records(1, 1), 3);
        Check.same("extremes", x.records(1, Long.MIN_VALUE) + x.records(2, Long.MAX_VALUE), 0);
        x.start(1, 1, 1);
        Check.same("of a new run", x.records(1, 1), 0);
    }

    /** "Operators, tasks, .. 0 where there is no job or run; NONE for another what." */
    private static void toldBeforeAndBehind() {
        House x = new House();
        told("a new one", x, 0, 0, 0, 0, 0, 0, 0, 0, 0, 0, 0, 0, 0, 0, 0);
        Check.feed(x, PLAIN);
        told("fed", x, 0, 0, 0, 0, 0, 0, 0, 0, 0, 0, 0, 0, 0, 0, PLAIN.length());
        x.job();
        told("with a job", x, 2, 0, 0, 0, 0, 0, 0, 0, 0, 0, 0, 0, 0, 1, 0);
        x.give(0, 5, 1, 1, 0, 0);
        x.start(1, 1, Check.seedFor(2, "AABABABABB"));
        told("with a run", x, 2, 2, 1, 0, 0, 0, 0, 0, 0, 0, 0, 0, 0, 1, 0);
        x.turn(3);
        told("the row was taken", x, 2, 2, 1, 3, 0, 0, 0, 0, 0, 0, 0, 1, 1, 1, 0);
        x.mark();
        told("asked", x, 2, 2, 1, 3, 0, 0, 1, 0, 0, 0, 0, 1, 1, 1, 0);
        x.crash(2);
        x.turn(5);
        told("down at the seal", x, 2, 2, 1, x.told(3), x.told(4), 0, 1, 0, 0, 1, 1, 0, 1, 1, 0);
        x.reopen();
        told("open again", x, 2, 2, 1, x.told(3), x.told(4), 0, 0, 1, 0, 0, 0, 0, 1, 1, 0);
        Check.finish(x);
        told("sealed", x, 2, 2, 1, x.told(3), x.told(4), 2, 0, 1, 0, 0, 0, 0, 2, 1, 0);
        Check.feed(x, PLAIN + "output a;");
        x.job();
        told("another job", x, 3, 0, 0, 0, 0, 0, 0, 0, 0, 0, 0, 0, 0, 2, 0);
        x.clear();
        told("cleared", x, 0, 0, 0, 0, 0, 0, 0, 0, 0, 0, 0, 0, 0, 0, 0);
    }

    private static void told(String when, House x, int... due) {
        House y = x.twin();
        for (int what = 0; what < due.length; what++) {
            Check.same(when + ": told(" + what + ")", y.told(what), due[what]);
        }
        Check.same(when + ": told(15)", y.told(15), -1);
        Check.same(when + ": told(-1)", y.told(-1), -1);
    }
}
