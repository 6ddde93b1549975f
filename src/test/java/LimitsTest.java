/** What a run has room for: beyond it, it is BROKEN (promises 9 to 11, 19, 20, 22). */
public final class LimitsTest {
    private static final String TWO = "a = source 0 (k v) lag 1000; b = source 1 (l w) lag 1000; ";

    public static void main(String[] args) {
        records();
        exactly();
        passingThrough();
        partsOfAMark();
        boxes();
        boxesExactly();
        rows();
        sets();
        setsExactly();
        keepsGoing();
        Check.end();
    }

    /** Rows of sources 0 .. n - 1, all of one KEY or each of its own. */
    private static StreamHouse given(String text, int n, boolean oneKey) {
        StreamHouse x = Check.house(text);
        for (int s = 0; s < n; s++) {
            for (int i = 0; i < 64; i++) {
                x.give(s, i, oneKey ? 1 : 100 * s + i, 100 * s + i, 0, 0);
            }
        }
        return x;
    }

    private static int turnsTillBroken(StreamHouse x) {
        int took = 0;
        for (int i = 0; i < 100 && x.told(8) == 0; i++) {
            took += x.turn(5000);
        }
        return took;
    }

    private static void isBroken(String what, StreamHouse x) {
        Check.same(what + " is broken", x.told(8), 1);
        int turns = x.told(3);
        int idle = x.told(4);
        Check.same(what + ": further turns", x.turn(100), 0);
        Check.same(what + ": they are not counted", x.told(3), turns);
        Check.same(what + ": nor idle", x.told(4), idle);
        Check.argument(what + ": 0 turns", () -> x.turn(0));
        Check.state(what + ": mark", () -> x.mark());
        Check.state(what + ": task", () -> x.task(0, 99));
        Check.index(what + ": task", () -> x.task(64, 99));
        Check.state(what + ": channel", () -> x.channel(0, 99));
        Check.same(what + ": fail", x.fail(), x.told(5));
        Check.same(what + " is not broken any more", x.told(8), 0);
        Check.same(what + ": task", x.task(0, 0), 0);
    }

    private static void records() {
        String spans = " by k span 1000 step 125 : n = count; ";
        StreamHouse x = given("a = source 0 (k v) lag 1000; f = fold a" + spans + "g = fold a" + spans + "h = fold a" + spans
            + "i = fold a" + spans + "j = fold a" + spans + "l = fold a" + spans + "m = fold a" + spans + "n = fold a" + spans
            + "output f;", 1, false);
        // 64 rows, 8 spans and 8 folds are 4096 records
        x.start(1, 8, 3);
        turnsTillBroken(x);
        isBroken("4096 records", x);
        StreamHouse y = given("a = source 0 (k v) lag 1000; f = fold a" + spans + "g = fold a" + spans + "h = fold a" + spans
            + "i = fold a" + spans + "j = fold a" + spans + "l = fold a" + spans + "m = fold a" + spans + "output f;", 1, false);
        y.start(1, 8, 3);
        turnsTillBroken(y);
        Check.same("3584 records are not too many", y.told(8), 0);
        y.mark();
        Check.settle(y);
        Check.same("nor in a mark", y.told(5), 1);
    }

    /** 4000 records are not too many, neither in states nor in a mark; one more is. */
    private static void exactly() {
        StreamHouse x = Check.house("a = source 0 (k v) lag 1000; b = source 1 (k v) lag 1000; c = source 2 (k v) lag 1000;"
            + "d = source 3 (k v) lag 1000; e = union a b; f = union c d; g = union e f; h = filter g : v = 0; i = filter g : v = 1;"
            + "j = fold h by k span 8 step 1 : n = count; l = fold h by k span 8 step 1 : n = count; m = top 1 i by k span 1000; output m;");
        for (int i = 0; i < 250; i++) {
            x.give(i % 4, 500, i, 0, 0, 0);
        }
        x.start(1, 8, 1);
        Check.settle(x);
        Check.same("250 rows in 8 spans of two folds each", held(x), 4000);
        Check.same("they are not too many", x.told(8), 0);
        x.mark();
        Check.settle(x);
        Check.same("nor in a mark", x.told(5), 1);
        Check.same("fail", x.fail(), 1);
        Check.same("they are there again", held(x), 4000);
        x.give(3, 500, 7, 1, 0, 0);
        turnsTillBroken(x);
        isBroken("4001 records", x);
    }

    /** Records that are over do not count any more: 4096 rows of a join go through each operator. */
    private static void passingThrough() {
        String[] operators = {"f = fold d by p span 1 step 1 : n = count; ", "f = fold d by p gap 1 : n = count; ",
            "f = fold d by q gap 1000 : n = count; ",
            "f = match d by p : 1 then 0 within 1; ", "f = match d by q : 1 then 1 within 1000; ", "f = unique d by p within 1; ", "f = top 1 d by p span 1; ",
            "f = look d b by p l; ", "f = join d b by p l within 0 0; ", "f = join b d by l p within - 3 3; "};
        for (String operator : operators) {
            StreamHouse x = Check.house("a = source 0 (k v) lag 0; b = source 1 (l w) lag 0; j = join a b by k l within - 64 64;"
                + "d = map j : p = 1000 + v * 100 + w, q = 1; " + operator + "output a;");
            x.start(1, 8, 1);
            for (int i = 0; i < 64; i++) {
                x.give(0, i, 1, i, 0, 0);
                x.give(1, i, 1, i, 0, 0);
                Check.settle(x);
            }
            Check.closeAll(x);
            Check.settle(x);
            Check.same("broken: " + operator, x.told(8), 0);
            Check.same("rows through it: " + operator, x.channel(4, 5) + x.channel(3, 5) >= 4096 ? 1 : 0, 1);
            Check.same("records that are left: " + operator, x.task(4, 4), operator.contains("look") ? 1 : 0);
        }
    }

    /** Four folds of a and four of b have 4096 records in their parts, though never all at once. */
    private static void partsOfAMark() {
        String spans = " span 1000 step 125 : n = count; ";
        String text = TWO + "f = fold a by k" + spans + "g = fold a by k" + spans + "h = fold a by k" + spans + "i = fold a by k" + spans
            + "m = fold b by l" + spans + "n = fold b by l" + spans + "o = fold b by l" + spans + "p = fold b by l" + spans + "output f;";
        int byParts = 0;
        for (int seed = 0; seed < 30; seed++) {
            StreamHouse x = Check.house(text);
            giveRows(x, 0, 0, 64);
            giveRows(x, 1, 0, 56);
            x.start(1, 8, seed);
            Check.settle(x);
            Check.same("records", held(x), 64 * 8 * 4 + 56 * 8 * 4);
            giveRows(x, 1, 56, 64);
            while (x.told(8) == 0 && x.task(1, 7) < 64) {
                x.turn(1);
            }
            if (x.told(8) == 0) {
                x.close(0);
                x.mark();
            }
            long before = 0;
            for (int i = 0; i < 5000 && x.told(8) == 0; i++) {
                before = held(x);
                x.turn(1);
            }
            byParts += before > 0 && before < 3900 ? 1 : 0;
            Check.same("no such mark is sealed", x.told(5), 0);
            isBroken("4096 records in parts", x);
        }
        Check.same("some were broken by their parts", byParts > 0 ? 1 : 0, 1);
    }

    private static void giveRows(StreamHouse x, int source, int from, int to) {
        for (int i = from; i < to; i++) {
            x.give(source, i, i, i, 0, 0);
        }
    }

    private static long held(StreamHouse x) {
        long held = 0;
        for (int t = 0; t < x.told(1) - 1; t++) {
            held += x.task(t, 4);
        }
        return held;
    }

    private static void boxes() {
        String four = "a = source 0 (k v) lag 1000; b = source 1 (k v) lag 1000; c = source 2 (k v) lag 1000; d = source 3 (k v) lag 1000;"
            + "u = union a b; w = union c d; x = union u w; f = fold x by k span 1000 step 125 : n = count; ";
        // 256 KEYS with 8 spans each end at once: 2048 things for each output
        StreamHouse x = given(four + "output f; output f;", 4, false);
        Check.closeAll(x);
        x.start(1, 8, 3);
        turnsTillBroken(x);
        isBroken("4096 things in boxes", x);
        StreamHouse y = given(four + "g = filter f : 0; output g;", 4, false);
        Check.closeAll(y);
        y.start(1, 8, 3);
        for (int i = 0; i < 40; i++) {
            y.turn(5000);
        }
        Check.same("2048 things in boxes are not too many", y.told(8), 0);
    }

    /** A fold's rows and its watermark go to two outputs at once. */
    private static void boxesExactly() {
        for (int spans = 1999; spans <= 2000; spans++) {
            StreamHouse x = Check.house("a = source 0 (k v) lag 1000; b = source 1 (k v) lag 1000; c = source 2 (k v) lag 1000;"
                + "d = source 3 (k v) lag 1000; e = union a b; f = union c d; g = union e f;"
                + "h = fold g by k span 8 step 1 : n = count; i = filter h : 0; j = filter h : 0; output i; output j;");
            for (int i = 0; i < 248; i++) {
                x.give(i % 4, 500, i, 0, 0, 0);
            }
            // two rows of one KEY that have a span in common, or none
            x.give(0, 500, 999, 0, 0, 0);
            x.give(1, spans == 1999 ? 507 : 508, 999, 0, 0, 0);
            Check.closeAll(x);
            x.start(1, 8, 2);
            for (int i = 0; i < 30; i++) {
                x.turn(5000);
            }
            Check.same(spans + " rows and a watermark, twice", x.told(8), spans == 1999 ? 0 : 1);
        }
    }

    private static void rows() {
        StreamHouse x = given(TWO + "j = join a b by k l within - 1000 1000; output j;", 2, true);
        x.start(1, 8, 9);
        int took = turnsTillBroken(x);
        Check.same("pending", x.told(11), 2000);
        Check.same("something was taken", took > 2000 ? 1 : 0, 1);
        isBroken("2001 rows", x);
        Check.same("pending rows go", x.told(11), 0);
        StreamHouse y = Check.house("a = source 0 (k) lag 0; u = union a a; v = union u u; w = union v v; x = union w w; output x;");
        for (int i = 0; i < 64; i++) {
            y.give(0, i, i, 0, 0, 0);
        }
        y.start(2, 8, 9);
        Check.finish(y);
        Check.same("1024 rows", y.visible(0), 1024);
        Check.same("right", y.onePass() ? 1 : 0, 1);
    }

    private static void sets() {
        StreamHouse x = given(TWO + "c = source 2 (m x) lag 1000; j = join a b by k l within - 1000 1000;"
            + "i = join j c by k m within - 1000 1000; output c;", 3, true);
        x.start(1, 8, 1);
        int took = 0;
        for (int i = 0; i < 500000 && x.told(8) == 0; i++) {
            int before = x.told(12);
            took += x.turn(1);
            if (x.told(8) == 1) {
                Check.same("sets of the turn are not counted", x.told(12), before);
            }
        }
        Check.same("not more than 30000", x.told(12) <= 30000 ? 1 : 0, 1);
        Check.same("things were taken", took > 100 ? 1 : 0, 1);
        int sets = x.told(12);
        isBroken("30001 sets", x);
        Check.same("sets are counted since start()", x.told(12), sets);
        turnsTillBroken(x);
        Check.same("it is broken again", x.told(8), 1);
        x.start(1, 8, 1);
        Check.same("a run from the beginning is not", x.told(8) + x.told(12), 0);
    }

    /** Four sources read 64 rows each, again and again. */
    private static void setsExactly() {
        StreamHouse x = given(TWO + "c = source 2 (k v) lag 1000; d = source 3 (k v) lag 1000; output a;", 4, true);
        x.start(1, 8, 1);
        for (int i = 1; i <= 117; i++) {
            x.turn(5000);
            Check.same("sets", x.told(12), 256 * i);
            x.fail();
        }
        x.turn(5000);
        Check.same("30000 sets", x.told(12), 30000);
        Check.same("one more is too many", x.told(8), 1);
    }

    /** Many failures, marks and runs use the same room again. */
    private static void keepsGoing() {
        StreamHouse y = given(TWO + "j = join a b by k l within - 3 3; f = fold j by v gap 2 : n = count; m = match j by k : 1 then 1 within 2;"
            + "o = unique j by w within 5; t = top 3 j by w span 10; output f;", 2, true);
        Check.closeAll(y);
        for (int i = 0; i < 40; i++) {
            y.start(1 + i % 4, 1 + i % 8, i);
            y.turn(3000);
            y.mark();
            y.turn(3000);
            y.rescale(1 + i % 3);
            y.turn(3000);
            if (y.told(6) == 0) {
                y.mark();
            }
            for (int k = 0; k < 20; k++) {
                y.turn(5000);
            }
            if (y.told(6) == 0) {
                y.mark();
                Check.settle(y);
            }
            Check.same("right, round " + i, y.onePass() ? 1 : 0, 1);
        }
    }
}
