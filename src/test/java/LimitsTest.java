/** What a run has room for: beyond it, it is BROKEN (promises 9 to 11, 19, 20, 22). */
public final class LimitsTest {
    private static final String TWO = "a = source 0 (k v) lag 1000; b = source 1 (l w) lag 1000; ";

    public static void main(String[] args) {
        records();
        exactly();
        eachKindOfRecord();
        recordsBehindThem();
        oneInPlaceOfAnother();
        markByMark();
        passingThrough();
        partsOfAMark();
        boxes();
        boxesExactly();
        partOfABrokenTurn();
        rowsExactly();
        visibleRowsCount();
        preparedRowsCount();
        setsExactly();
        setsOfOneTurn();
        brokenTurnCounts();
        beginsAgain();
        keepsGoing();
        Check.end();
    }

    /** Rows of sources 0 .. n - 1, all of one KEY or each of its own. */
    private static House given(String text, int n, boolean oneKey) {
        House x = Check.house(text);
        for (int s = 0; s < n; s++) {
            for (int i = 0; i < 64; i++) {
                x.give(s, i, oneKey ? 1 : 100 * s + i, 100 * s + i, 0, 0);
            }
        }
        return x;
    }

    private static void turnsTillBroken(House x) {
        for (int i = 0; i < 30 && x.told(8) == 0; i++) {
            x.turn(5000);
        }
    }

    /** It and what it does next are brought to the turn before the one that breaks it. */
    private static House justBefore(House x) {
        House broken = x.twin();
        turnsTillBroken(broken);
        Check.same("it will be broken", broken.told(8), 1);
        House before = x.twin();
        int left = broken.told(3) - before.told(3) - 1;
        while (left > 0) {
            before.turn(Math.min(5000, left));
            left -= 5000;
        }
        Check.same("it is not broken yet", before.told(8), 0);
        return before;
    }

    private static void isBroken(String what, House x) {
        Check.same(what + " is broken", x.told(8), 1);
        int turns = x.told(3);
        int idle = x.told(4);
        Check.same(what + ": further turns", x.turn(100), 0);
        Check.same(what + ": they are not counted", x.told(3), turns);
        Check.same(what + ": nor idle", x.told(4), idle);
        Check.argument(what + ": 0 turns", () -> x.turn(0));
        Check.state(what + ": mark", () -> x.mark());
        Check.state(what + ": task", () -> x.task(0, 99));
        Check.index(what + ": task", () -> x.task(64, 99));
        Check.state(what + ": channel", () -> x.channel(0, 99));
        Check.same(what + ": fail", x.fail(), x.told(5));
        Check.same(what + " is not broken any more", x.told(8), 0);
        Check.same(what + ": task", x.task(0, 0), 0);
    }

    private static void records() {
        String spans = " by k span 1000 step 125 : n = count; ";
        House x = given("a = source 0 (k v) lag 1000; f = fold a" + spans + "g = fold a" + spans + "h = fold a" + spans
            + "i = fold a" + spans + "j = fold a" + spans + "l = fold a" + spans + "m = fold a" + spans + "n = fold a" + spans
            + "output f;", 1, false);
        // 64 rows, 8 spans and 8 folds are 4096 records
        x.start(1, 8, 3);
        turnsTillBroken(x);
        isBroken("4096 records", x);
        House y = given("a = source 0 (k v) lag 1000; f = fold a" + spans + "g = fold a" + spans + "h = fold a" + spans
            + "i = fold a" + spans + "j = fold a" + spans + "l = fold a" + spans + "m = fold a" + spans + "output f;", 1, false);
        y.start(1, 8, 3);
        turnsTillBroken(y);
        Check.same("3584 records are not too many", y.told(8), 0);
        y.mark();
        Check.settle(y);
        Check.same("nor in a mark", y.told(5), 1);
    }

    /** 4000 records are not too many, neither in states nor in a mark; one more is. */
    private static void exactly() {
        House x = Check.house("a = source 0 (k v) lag 1000; b = source 1 (k v) lag 1000; c = source 2 (k v) lag 1000;"
            + "d = source 3 (k v) lag 1000; e = union a b; f = union c d; g = union e f; h = filter g : v = 0; i = filter g : v = 1;"
            + "j = fold h by k span 8 step 1 : n = count; l = fold h by k span 8 step 1 : n = count; m = top 1 i by k span 1000; output m;");
        for (int i = 0; i < 250; i++) {
            x.give(i % 4, 500, i, 0, 0, 0);
        }
        x.start(1, 8, 1);
        Check.settle(x);
        Check.same("250 rows in 8 spans of two folds each", held(x), 4000);
        Check.same("they are not too many", x.told(8), 0);
        x.mark();
        Check.settle(x);
        Check.same("nor in a mark", x.told(5), 1);
        Check.same("fail", x.fail(), 1);
        Check.same("they are there again", held(x), 4000);
        x.give(3, 500, 7, 1, 0, 0);
        turnsTillBroken(x);
        isBroken("4001 records", x);
    }

    private static final String PAIRS = "a = source 0 (k v) lag 1000; b = source 1 (l w) lag 1000; c = source 2 (z) lag 1000; j = join a b by k l within 0 100;"
        + "e = filter j : v * 63 + w < #; d = map e : p = v * 63 + w, q = 1; o = ";

    /** "each KEY and span, each session, each row that waits or is kept": 126 rows that the join keeps, and one for each of its pairs. */
    private static void eachKindOfRecord() {
        String[] operators = {"fold d by p span 1 step 1 : n = count", "fold d by p gap 9 : n = count", "join d c by p z within 0 0", "join c d by z p within 0 0",
            "look d c by p z", "look c d by z p", "match d by p : 1 then 1 within 9", "unique d by p within 9", "top 1 d by p span 7"};
        for (String operator : operators) {
            for (int more = 0; more <= 1; more++) {
                House x = pairs(operator, 3874 + more);
                giveBatch(x, 1, 500, 0, 63);
                Check.settle(x);
                Check.same(operator + ": " + (4000 + more) + " records", x.told(8), more);
                if (more == 0) {
                    Check.same(operator + ": records", held(x), 4000);
                    Check.same(operator + ": its own", x.task(6, 4), 3874);
                } else {
                    isBroken(operator, x);
                }
            }
        }
    }

    /** "each PARTIAL one, each KEY of unique is one": half of the pairs are such ones, when the others come and wait. */
    private static void recordsBehindThem() {
        for (String operator : new String[] {"match d by p : 1 then 1 within 900", "unique d by p within 900", "look c d by z p"}) {
            long few = held(halfThrough(operator, 3500));
            int most = (int) (3500 + 4000 - few);
            House x = halfThrough(operator, most);
            Check.same(operator + ": records", held(x), 4000);
            Check.same(operator + " is not broken", x.told(8), 0);
            House y = halfThrough(operator, most + 1);
            isBroken(operator, y);
        }
    }

    private static House pairs(String operator, int rows) {
        House x = Check.house(PAIRS.replace("#", "" + rows) + operator + "; output c;");
        x.start(1, 8, 4);
        giveBatch(x, 0, 500, 0, 63);
        return x;
    }

    private static void giveBatch(House x, int source, int time, int from, int to) {
        for (int i = from; i < to; i++) {
            x.give(source, time, 1, i, 0, 0);
        }
    }

    private static House halfThrough(String operator, int rows) {
        House x = pairs(operator, rows);
        giveBatch(x, 1, 500, 0, 32);
        Check.settle(x);
        for (int s = 0; s < 3; s++) {
            x.give(s, 1501, 7 + s, 0, 0, 0);
        }
        Check.settle(x);
        Check.same(operator + ": watermark", x.task(6, 2), 500);
        giveBatch(x, 1, 600, 32, 63);
        Check.settle(x);
        return x;
    }

    /** Four operators with 16 records for each row of a, and a top with one for each row of b: 4000 in all. */
    private static House exactlyFull(String operator, int parallel) {
        StringBuilder text = new StringBuilder("a = source 0 (k) lag 1000; m = map a : k = k + 64; n = union a m; o = map n : k = k + 128; p = union n o;"
            + "q = map p : k = k + 256; r = union p q; s = map r : k = k + 512; u = union r s; ");
        for (char name = 'w'; name <= 'z'; name++) {
            text.append(name).append(" = ").append(operator).append("; ");
        }
        House x = Check.house(text + "b = source 1 (k) lag 1000; t = top 1 b by k span 1000; output b;");
        for (int i = 0; i < 62; i++) {
            x.give(0, 500, i, 0, 0, 0);
        }
        for (int i = 0; i < 32; i++) {
            x.give(1, 500, i, 0, 0, 0);
        }
        x.start(parallel, 8, 6);
        Check.settle(x);
        Check.same(operator + ": records", held(x), 4000);
        Check.same(operator + ": not broken", x.told(8), 0);
        return x;
    }

    /** "A row that waited is none any more when it was gone through, before a PARTIAL one or a KEY comes of it; sessions that are put together are one" */
    private static void oneInPlaceOfAnother() {
        for (String operator : new String[] {"match u by k : 1 then 1 within 9", "unique u by k within 9"}) {
            House x = exactlyFull(operator, 1);
            x.give(0, 1501, 0, 0, 0, 0);
            // its own copies wait, so that some of those at 500 have to go before
            turnsTillBroken(x);
            isBroken(operator + " with more rows", x);
            House y = exactlyFull(operator, 2);
            y.close(0);
            Check.settle(y);
            Check.same(operator + ": each row in place of itself", y.told(8), 0);
            Check.same(operator + ": all are over", held(y), 32);
        }
        for (String operator : new String[] {"fold u by k gap 9 : n = count", "fold u by k span 1 step 1 : n = count"}) {
            House x = exactlyFull(operator, 4);
            x.give(0, 500, 7, 0, 0, 0);
            Check.settle(x);
            Check.same(operator + ": a row of the same KEY is no record more", held(x), 4000);
            Check.same(operator + ": not broken", x.told(8), 0);
            House y = x.twin();
            y.give(0, 500, 62, 0, 0, 0);
            turnsTillBroken(y);
            isBroken(operator + " with another KEY", y);
            x.give(1, 500, 62, 0, 0, 0);
            turnsTillBroken(x);
            isBroken(operator + " with another row that waits", x);
        }
    }

    /** 4000 records in the parts of each mark, mark by mark, be they sealed or given up. */
    private static void markByMark() {
        House x = pairs("unique d by p within 9", 3874);
        giveBatch(x, 1, 500, 0, 63);
        Check.settle(x);
        for (int i = 1; i <= 6; i++) {
            Check.same("a mark", x.mark(), i);
            if (i % 2 == 0) {
                for (int k = 0; k < 50 && x.told(6) != 0 && x.task(6, 8) == 0; k++) {
                    x.turn(3);
                }
                x.fail();
            }
            Check.settle(x);
            Check.same("not broken", x.told(8), 0);
            Check.same("records", held(x), 4000);
        }
    }

    /** Records that are over do not count any more: 4096 rows of a join go through each operator. */
    private static void passingThrough() {
        String[] operators = {"f = fold d by p span 1 step 1 : n = count; ", "f = fold d by p gap 1 : n = count; ",
            "f = fold d by q gap 1000 : n = count; ",
            "f = match d by p : 1 then 0 within 1; ", "f = match d by q : 1 then 1 within 1000; ", "f = unique d by p within 1; ", "f = top 1 d by p span 1; ",
            "f = look d b by p l; ", "f = join d b by p l within 0 0; ", "f = join b d by l p within - 3 3; "};
        for (String operator : operators) {
            House x = Check.house("a = source 0 (k v) lag 0; b = source 1 (l w) lag 0; j = join a b by k l within - 64 64;"
                + "d = map j : p = 1000 + v * 100 + w, q = 1; " + operator + "output a;");
            x.start(1, 8, 1);
            for (int i = 0; i < 64; i++) {
                x.give(0, i, 1, i, 0, 0);
                x.give(1, i, 1, i, 0, 0);
                Check.settle(x);
            }
            Check.closeAll(x);
            Check.settle(x);
            Check.same("broken: " + operator, x.told(8), 0);
            Check.same("rows through it: " + operator, x.channel(4, 5) + x.channel(3, 5) >= 4096 ? 1 : 0, 1);
            Check.same("records that are left: " + operator, x.task(4, 4), operator.contains("look") ? 1 : 0);
        }
    }

    /**
     * "as many in all parts of a mark together (looked at as a part is taken, before it is written)": four folds of a have
     * their parts, and end, before the last row of b, which has been read already, comes to four folds of b.
     */
    private static void partsOfAMark() {
        String spans = " span 8 step 1 : n = count; ";
        String text = "a = source 0 (k v) lag 1000; b = source 1 (k v) lag 1000; c = source 2 (k v) lag 1000; f = fold a by k" + spans + "g = fold a by k" + spans
            + "h = fold a by k" + spans + "i = fold a by k" + spans + "p = filter b : 1; q = filter p : 1; r = filter q : 1; j = fold r by k" + spans
            + "l = fold r by k" + spans + "m = fold r by k" + spans + "n = fold r by k" + spans + "t = top 1 c by k span 1000; output b;";
        int byParts = 0;
        for (int seed = 0; seed < 6; seed++) {
            for (int more = 0; more <= 1; more++) {
                House x = Check.house(text);
                giveRows(x, 0, 0, 64);
                giveRows(x, 1, 0, 60);
                giveRows(x, 2, 0, more);
                x.start(1, 8, seed);
                Check.settle(x);
                Check.same("records", held(x), 64 * 32 + 60 * 32 + more);
                giveRows(x, 1, 60, 61);
                for (int i = 0; i < 100 && x.task(1, 7) < 61; i++) {
                    x.turn(1);
                }
                x.close(0);
                House asked = x.twin();
                x.mark();
                if (more == 0) {
                    Check.settle(x);
                    Check.same("4000 records in parts are not too many", x.told(5), 1);
                    Check.same("nor broken", x.told(8), 0);
                    Check.same("those of a KEY", x.records(3, 500) + x.records(11, 560), 16);
                } else {
                    House before = justBefore(x);
                    Check.same("no mark is sealed", before.told(5), 0);
                    // a turn makes 8 records at most, so that it can't be for those of states
                    byParts += held(before) <= 3900 ? 1 : 0;
                    if (held(before) <= 3900) {
                        // it is looked at before the part is written, by which the power would fail
                        asked.crash(parts(before));
                        asked.mark();
                        turnsTillBroken(asked);
                        Check.same("broken, but not down", 10 * asked.told(8) + asked.told(9), 10);
                    }
                    Check.same("a thing was taken", before.turn(1), 1);
                    isBroken("4001 records in parts", before);
                }
            }
        }
        Check.same("most were broken by their parts", byParts >= 4 ? 1 : 0, 1);
    }

    /** Rows of KEYS of their own. */
    private static void giveRows(House x, int source, int from, int to) {
        for (int i = from; i < to; i++) {
            x.give(source, 500, 500 + i, 1, 0, 0);
        }
    }

    private static long held(House of) {
        House x = of.twin();
        long held = 0;
        for (int t = 0; t < x.told(1) - 1; t++) {
            held += x.task(t, 4);
        }
        return held;
    }

    private static void boxes() {
        String four = "a = source 0 (k v) lag 1000; b = source 1 (k v) lag 1000; c = source 2 (k v) lag 1000; d = source 3 (k v) lag 1000;"
            + "u = union a b; w = union c d; x = union u w; f = fold x by k span 1000 step 125 : n = count; ";
        // 256 KEYS with 8 spans each end at once: 2048 things for each output
        House x = given(four + "output f; output f;", 4, false);
        Check.closeAll(x);
        x.start(1, 8, 3);
        turnsTillBroken(x);
        isBroken("4096 things in boxes", x);
        House y = given(four + "g = filter f : 0; output g;", 4, false);
        Check.closeAll(y);
        y.start(1, 8, 3);
        for (int i = 0; i < 40; i++) {
            y.turn(5000);
        }
        Check.same("2048 things in boxes are not too many", y.told(8), 0);
    }

    /** A fold, task 10, with 3999 or 4000 spans, which end when all sources are closed. */
    private static House manySpans(int spans, int room, String more) {
        House x = Check.house("a = source 0 (k v) lag 1000; b = source 1 (k v) lag 1000; c = source 2 (k v) lag 1000; d = source 3 (k v) lag 1000;"
            + "e = union a b; f = union c d; g = union e f; h = filter g : v; i = map h : k = k + 1000, v = v; j = union g i;"
            + "l = fold j by k span 8 step 1 : n = count; m = filter l : 0; " + more + "output m;");
        int twice = spans == 4000 ? 250 : 249;
        for (int i = 0; i < twice; i++) {
            x.give(i % 4, 500, i, 1, 0, 0);
        }
        if (spans == 3999) {
            // of one KEY: 15 spans
            x.give(0, 500, 999, 0, 0, 0);
            x.give(1, 507, 999, 0, 0, 0);
        }
        x.start(1, room, 2);
        Check.settle(x);
        Check.same("spans", x.task(10, 4), spans);
        x.mark();
        Check.settle(x);
        Check.closeAll(x);
        return x;
    }

    /** As it is behind the turn in which the fold's rows come to its box. */
    private static House boxIsFull(House x) {
        House last = x.twin();
        int turns = 0;
        for (int i = 0; i < 200 && last.task(10, 4) > 0; i++) {
            last.turn(10);
            turns += 10;
        }
        for (int n = Math.max(1, turns - 9); n <= turns; n++) {
            House y = x.twin();
            y.turn(n);
            if (y.task(10, 4) == 0) {
                return y;
            }
        }
        throw new Error("the fold did not end");
    }

    /** A fold's rows and its watermark come to its box at once: 3999 or 4000 rows, and one watermark. */
    private static void boxesExactly() {
        House x = manySpans(3999, 8, "");
        for (int again = 0; again < 3; again++) {
            // what was in boxes before a failure does not count
            x = boxIsFull(x);
            Check.same("things in the box, but for those that went on", x.task(10, 3), 3992);
            Check.same("4000 things in boxes are not too many", x.told(8), 0);
            x.fail();
            Check.same("the box is empty", x.task(10, 3), 0);
        }
        Check.settle(x);
        Check.same("all went through", x.channel(11, 5), 3999);
        Check.same("they are not too many", x.told(8), 0);
        House before = justBefore(manySpans(4000, 8, ""));
        Check.same("spans", before.task(10, 4), 4000);
        Check.same("the watermark is taken", before.turn(1), 1);
        nothingIsLeft(before);
        isBroken("4001 things in boxes", before);
    }

    /** "what it did so far is nobody's": a part for whose barriers there is no room is not written. */
    private static void partOfABrokenTurn() {
        House x = boxIsFull(manySpans(3999, 1, "n = filter a : 1; o = filter a : 1; p = filter a : 1; "));
        Check.same("things in the box", x.task(10, 3), 3999);
        x.crash(6);
        x.mark();
        House before = justBefore(x);
        int written = parts(before);
        Check.same("fewer than the sources are", written < 4 ? 1 : 0, 1);
        before.turn(1);
        Check.same("broken by a barrier", before.told(8), 1);
        before.fail();
        before.mark();
        House down = before.twin();
        down.turn(5000);
        Check.same("down", down.told(9), 1);
        before.turn(down.told(3) - before.told(3) - 1);
        Check.same("not down", before.told(9), 0);
        Check.same("parts that were still to be written", parts(before), 6 - written);
    }

    private static int parts(House of) {
        House x = of.twin();
        int parts = 0;
        for (int t = 0; t < x.told(1); t++) {
            parts += (int) x.task(t, 8);
        }
        return parts;
    }

    private static final String THREE = TWO + "c = source 2 (m x) lag 1000; j = join a b by k l within - 1000 1000; ";

    /** 50 rows of a with 40 rows of b. */
    private static House twoThousand(String rest) {
        House x = Check.house(THREE + rest);
        for (int i = 0; i < 50; i++) {
            x.give(0, i, 1, i, 0, 0);
        }
        for (int i = 0; i < 40; i++) {
            x.give(1, i, 1, i, 0, 0);
        }
        return x;
    }

    /** "2000 rows pending, prepared and visible" */
    private static void rowsExactly() {
        House x = twoThousand("output j; output c;");
        x.start(2, 8, 9);
        Check.settle(x);
        Check.same("pending", x.told(11), 2000);
        Check.same("2000 rows are not too many", x.told(8), 0);
        x.give(2, 5, 1, 1, 0, 0);
        House before = justBefore(x);
        Check.same("pending", before.told(11), 2000);
        Check.same("it is taken", before.turn(1), 1);
        Check.same("it is not pending", before.told(11), 2000);
        isBroken("2001 rows", before);
        Check.same("pending rows go", before.told(11), 0);
    }

    private static void visibleRowsCount() {
        House x = twoThousand("output j; output c;");
        x.start(2, 8, 9);
        Check.settle(x);
        x.mark();
        Check.settle(x);
        Check.same("visible", x.visible(0), 2000);
        Check.same("the last one", x.row(0, 1999, -1), 49);
        Check.index("no more", () -> x.row(0, 2000, -1));
        x.give(2, 5, 1, 1, 0, 0);
        turnsTillBroken(x);
        isBroken("2001 rows, of which 2000 are visible", x);
        Check.same("they stay", x.visible(0), 2000);
        turnsTillBroken(x);
        isBroken("again, as they stay", x);
        // 1999 and one more
        House y = twoThousand("e = filter j : v + w; output e; output c;");
        y.start(1, 8, 9);
        Check.settle(y);
        Check.same("pending", y.told(11), 1999);
        y.mark();
        Check.settle(y);
        y.give(2, 5, 1, 1, 0, 0);
        Check.settle(y);
        Check.same("2000 rows", y.visible(0) + y.told(11), 2000);
        y.mark();
        Check.settle(y);
        Check.same("they are visible", y.visible(0) + y.visible(1), 2000);
        Check.same("they are not too many", y.told(8), 0);
    }

    /** A mark stays open while the barrier of d is on its way; the row of c comes to its output meanwhile. */
    private static void preparedRowsCount() {
        int prepared = 0;
        for (int seed = 0; seed < 12; seed++) {
            House x = twoThousand("d = source 3 (n y) lag 0; e = filter d : 1; f = filter e : 1; g = filter f : 1; h = filter g : 1; output j; output c; output h;");
            x.start(1, 8, seed);
            Check.settle(x);
            x.mark();
            x.give(2, 5, 1, 1, 0, 0);
            House before = justBefore(x);
            prepared += before.told(10) == 2000 && before.told(6) == 1 ? 1 : 0;
            Check.same("rows", before.told(10) + before.told(11) + before.visible(0), 2000);
        }
        Check.same("some were broken by prepared rows", prepared > 0 ? 1 : 0, 1);
    }

    /** "30000 SETS": nine times 63 rows, 51 rows and all their pairs, and 57 rows of another source. */
    private static void setsExactly() {
        House x = Check.house(THREE + "output c;");
        for (int i = 0; i < 63; i++) {
            x.give(0, 5, 1, i, 0, 0);
        }
        for (int i = 0; i < 51; i++) {
            x.give(1, 5, 1, i, 0, 0);
        }
        x.start(1, 8, 1);
        for (int i = 1; i <= 9; i++) {
            Check.settle(x);
            Check.same("sets", x.told(12), 3327 * i);
            if (i < 9) {
                x.fail();
            }
        }
        for (int i = 0; i < 57; i++) {
            x.give(2, 5, 1, i, 0, 0);
        }
        Check.settle(x);
        Check.same("30000 sets", x.told(12), 30000);
        Check.same("they are not too many", x.told(8), 0);
        Check.same("pending", x.told(11), 57);
        x.give(2, 5, 1, 1, 0, 0);
        House before = justBefore(x);
        Check.same("its row is read", before.turn(1), 1);
        Check.same("it is not pending", before.told(11), 57);
        Check.same("its set is not counted", before.told(12), 30000);
        isBroken("30001 sets", before);
        Check.same("sets are counted since start()", before.told(12), 30000);
        turnsTillBroken(before);
        isBroken("it is broken again", before);
        before.start(1, 8, 1);
        Check.same("a run from the beginning is not", before.told(8) + before.told(12), 0);
        before.turn(200);
        Check.same("nor later", before.told(8), 0);
    }

    /** Of a turn that would make several sets none is counted. */
    private static void setsOfOneTurn() {
        House x = given(THREE + "i = join j c by k m within - 1000 1000; output c;", 3, true);
        x.start(1, 8, 1);
        House before = justBefore(x);
        int sets = before.told(12);
        Check.same("nearly 30000", sets > 25000 && sets <= 30000 ? 1 : 0, 1);
        Check.same("a thing is taken", before.turn(1), 1);
        Check.same("sets of the turn are not counted", before.told(12), sets);
        nothingIsLeft(before);
        isBroken("more than 30000 sets", before);
    }

    /** "what it did so far is nobody's": rows that a broken turn made do not come out of another run. */
    private static void nothingIsLeft(House of) {
        House x = of.twin();
        Check.same("it is broken", x.told(8), 1);
        Check.feed(x, "a = source 0 (k v) lag 9; f = filter a : 1; output f;");
        x.job();
        x.give(0, 5, 7, 8, 0, 0);
        x.start(2, 2, 2);
        Check.finish(x);
        Check.same("rows of another job", Check.rows(x, 0, 2), "5:7,8<0>");
        Check.same("right", x.onePass() ? 1 : 0, 1);
        Check.same("sets", x.told(12), 1);
    }

    /** "the turn ends .. (its thing was taken, or its row read, and counts in turn()'s answer); further turns do nothing" */
    private static void brokenTurnCounts() {
        House x = twoThousand("output j; output c;");
        x.give(2, 5, 1, 1, 0, 0);
        x.start(1, 8, 7);
        House before = justBefore(x);
        int turns = before.told(3);
        int idle = before.told(4);
        House many = before.twin();
        Check.same("one turn of many", many.turn(5000), 1);
        Check.same("it is counted alone", many.told(3), turns + 1);
        Check.same("no idle one", many.told(4), idle);
        Check.same("many turns at once, and one by one", many.picture(), behind(before, 1).picture());
        Check.same("nothing more", many.turn(5000), 0);
        // a mark that is open stays so till it begins again
        House open = before.twin();
        open.mark();
        turnsTillBroken(open);
        Check.same("broken", open.told(8), 1);
        Check.same("the open mark", open.told(6), 1);
        Check.state("another mark", () -> open.mark());
        Check.same("fail", open.fail(), 0);
        Check.same("none is open", open.told(6), 0);
        Check.same("the next one", open.mark(), 2);
    }

    private static House behind(House x, int turns) {
        House y = x.twin();
        y.turn(turns);
        return y;
    }

    /** "till it begins again (by fail(), rescale(), reopen() or start())" */
    private static void beginsAgain() {
        House x = twoThousand("output j; output c;");
        x.give(2, 5, 1, 1, 0, 0);
        x.start(1, 8, 7);
        turnsTillBroken(x);
        House failed = x.twin();
        failed.fail();
        House other = x.twin();
        other.rescale(3);
        House anew = x.twin();
        anew.start(2, 2, 2);
        for (House y : new House[] {failed, other, anew}) {
            Check.same("broken before", x.told(8), 1);
            Check.same("not broken", y.told(8), 0);
            Check.same("pending", y.told(11), 0);
            Check.same("place", y.task(0, 7), 0);
            Check.same("a turn is counted again", y.turn(1) >= 0 ? 1 : 0, 1);
            turnsTillBroken(y);
            Check.same("broken in the end", y.told(8), 1);
        }
        Check.same("began again", failed.told(7), 1);
        Check.same("began again", other.told(7), 1);
        Check.same("began anew", anew.told(7), 0);
        // another job, and clear(), end it, too
        Check.feed(x, "a = source 0 (k) lag 0; output a;");
        x.job();
        Check.same("not broken", x.told(8), 0);
        x.clear();
        Check.same("not broken", x.told(8), 0);
    }

    /** Many failures, marks and runs use the same room again. */
    private static void keepsGoing() {
        House y = given(TWO + "j = join a b by k l within - 3 3; f = fold j by v gap 2 : n = count; m = match j by k : 1 then 1 within 2;"
            + "o = unique j by w within 5; t = top 3 j by w span 10; output f;", 2, true);
        Check.closeAll(y);
        for (int i = 0; i < 16; i++) {
            y.start(1 + i % 4, 1 + i % 8, i);
            y.turn(3000);
            y.mark();
            y.turn(3000);
            y.rescale(1 + i % 3);
            y.turn(3000);
            Check.settle(y);
            y.mark();
            Check.settle(y);
            Check.same("right, round " + i, y.onePass() ? 1 : 0, 1);
        }
    }
}
