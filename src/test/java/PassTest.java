/** Parts 6 and 7 of the document at their edges: where rows come from, SETS, ONE PASS (promises 16 to 18, 22). */
public final class PassTest {
    private static final String A = "a = source 0 (k v) lag 50; ";

    public static void main(String[] args) {
        sourcesAndPlaces();
        bySourcesThenPlaces();
        ofEachOperator();
        setsThatAreTheSame();
        setsOfSessions(false, false);
        setsOfSessions(true, false);
        setsOfSessions(false, true);
        setsOfSessions(true, true);
        setsOfRowsThatNobodyTakes();
        notRightYet();
        eachAsOften();
        anyOutput();
        lateRows();
        whateverTheRun();
        oneBehindTheOther();
        fourThousandRows();
        behindTooManyRows();
        Check.end();
    }

    /** "64 times the source's number, and the place" */
    private static void sourcesAndPlaces() {
        House x = Check.house("a = source 0 (k) lag 50; b = source 1 (k) lag 50; c = source 2 (k) lag 50; d = source 3 (k) lag 50; output a; output b; output c; output d;");
        for (int s = 0; s < 4; s++) {
            for (int i = 0; i < 64; i += s == 0 || s == 3 ? 1 : 63) {
                x.give(s, 5, i, 0, 0, 0);
            }
        }
        x.start(1, 8, 3);
        Check.finish(x);
        int[] rows = {64, 2, 2, 64};
        for (int s = 0; s < 4; s++) {
            int last = rows[s] - 1;
            int output = s;
            Check.same("rows of source " + s, x.visible(s), rows[s]);
            Check.same("how many", x.lineage(s, 0, -1), 1);
            Check.same("the first place", x.lineage(s, 0, 0), 64 * s);
            Check.same("the last place", x.lineage(s, last, 0), 64 * s + last);
            Check.index("a second one", () -> x.lineage(output, 0, 1));
            Check.index("none before the first", () -> x.lineage(output, 0, -2));
            Check.index("no row", () -> x.lineage(output, rows[output], -1));
        }
    }

    /** "the k-th of them, by sources, then places" */
    private static void bySourcesThenPlaces() {
        House x = Check.house("d = source 3 (k) lag 50; b = source 1 (k) lag 50; a = source 0 (k) lag 50; c = source 2 (k) lag 50; u = union d b; w = union c a; z = union u w;"
            + "f = fold z by k gap 900 : n = count; output f;");
        for (int s = 3; s >= 0; s--) {
            for (int i = 0; i < 64; i++) {
                // of each source the places 0, 9, 18, .. 63
                x.give(s, 100 - i % 30, i % 9 == 0 ? 1 : 2, 0, 0, 0);
            }
        }
        x.start(2, 8, 3);
        Check.finish(x);
        Check.same("rows", x.visible(0), 2);
        Check.same("of KEY 1", x.row(0, 0, 0), 1);
        Check.same("how many", x.lineage(0, 0, -1), 32);
        for (int k = 0; k < 32; k++) {
            Check.same("the " + k + "-th", x.lineage(0, 0, k), 64 * (k / 8) + 9 * (k % 8));
        }
        Check.index("no more", () -> x.lineage(0, 0, 32));
        Check.same("how many of KEY 2", x.lineage(0, 1, -1), 224);
        Check.same("the first one", x.lineage(0, 1, 0), 1);
        Check.same("the last one", x.lineage(0, 1, 223), 3 * 64 + 62);
        Check.index("no more", () -> x.lineage(0, 1, 224));
        Check.index("no more", () -> x.lineage(0, 1, Integer.MAX_VALUE));
    }

    private static void made(String rest, int columns, String due, int sets) {
        House x = Check.house(A + rest + " output o;");
        Check.give(x, Check.row(0, 51, 1, 1), Check.row(0, 52, 1, 2), Check.row(0, 53, 1, 3));
        x.start(2, 8, 3);
        Check.finish(x);
        Check.same("rows of " + rest, Check.rows(x, 0, columns), due);
        Check.same("sets of " + rest, x.told(12), 3 + sets);
    }

    /** "a filter's, map's, union's, unique's, top's row has that of its row, a fold's all of its rows', .." and how many sets that makes */
    private static void ofEachOperator() {
        made("o = filter a : v = 2;", 2, "52:1,2<1>", 0);
        made("o = map a : x = 7 + v;", 1, "51:8<0> 52:9<1> 53:10<2>", 0);
        made("o = union a a;", 2, "51:1,1<0> 51:1,1<0> 52:1,2<1> 52:1,2<1> 53:1,3<2> 53:1,3<2>", 0);
        made("o = unique a by k within 2;", 2, "51:1,1<0> 53:1,3<2>", 0);
        made("o = top 2 a by v span 100;", 3, "99:1,2,2<1> 99:1,3,1<2>", 0);
        made("o = fold a by k span 100 step 100 : n = count;", 2, "99:1,3<0,1,2>", 2);
        made("o = fold a by k span 1 step 1 : n = count;", 2, "51:1,1<0> 52:1,1<1> 53:1,1<2>", 0);
        made("o = fold a by k span 2 step 1 : n = count;", 2, "51:1,1<0> 52:1,2<0,1> 53:1,2<1,2> 54:1,1<2>", 2);
        made("o = fold a by k gap 5 : n = count;", 2, "57:1,3<0,1,2>", 2);
        made("o = fold a by k gap 1 : n = count;", 2, "51:1,1<0> 52:1,1<1> 53:1,1<2>", 0);
        made("b = map a : l = k, w = v; o = join a b by k l within 1 1;", 4, "52:1,1,1,2<0,1> 53:1,2,1,3<1,2>", 2);
        made("b = map a : l = k, w = v + 1; o = look a b by v w;", 4, "52:1,2,1,2<0,1> 53:1,3,1,3<1,2>", 2);
        made("o = match a by k : v = 1 then v = 2 within 9;", 3, "52:1,51,52<0,1>", 1);
        made("o = match a by k : v = 1 then v = 3 within 9;", 3, "53:1,51,53<0,2>", 1);
        made("o = match a by k : v = 1 then 1 then 1 within 9;", 3, "53:1,51,53<0,1,2>", 2);
        made("o = match a by k : v = 1 then v = 2 then v = 9 within 9;", 3, "", 1);
    }

    /** "whenever two are put together (two that are the same one are not)" */
    private static void setsThatAreTheSame() {
        made("b = map a : l = k, w = v; o = join a b by v w within 0 0;", 4, "51:1,1,1,1<0> 52:1,2,1,2<1> 53:1,3,1,3<2>", 0);
        made("b = map a : l = k, w = v; o = look a b by v w;", 4, "51:1,1,1,1<0> 52:1,2,1,2<1> 53:1,3,1,3<2>", 0);
        made("b = union a a; o = fold b by v span 100 step 100 : n = count;", 2, "99:1,2<0> 99:2,2<1> 99:3,2<2>", 0);
        made("b = union a a; o = fold b by v gap 10 : n = count;", 2, "60:1,2<0> 61:2,2<1> 62:3,2<2>", 0);
        made("b = union a a; o = match b by v : 1 then 1 within 0;", 3, "51:1,51,51<0> 52:2,52,52<1> 53:3,53,53<2>", 0);
    }

    /**
     * A row between two sessions, of which one has the same SET, is put together with them as they came: with that one
     * first no SET is made but one for both, with it behind the other one there are two.
     */
    private static void setsOfSessions(boolean otherFirst, boolean again) {
        House x = Check.house("a = source 0 (k) lag 0; b = source 1 (k) lag 0; c = source 2 (k) lag 0; f = fold a by k span 20 step 20 : n = count;"
            + "h = union a c; q = unique h by k within 1; m = map q : k = k, n = 1; p = map b : k = k, n = 1;"
            + "u = union f m; w = union u p; o = fold w by n gap 10 : z = count; output o;");
        x.give(0, 10, 1, 0, 0, 0);
        x.start(1, 8, 3);
        // the row of time 10 waits for source 2 till the fold's row of time 19, made of it, and one of time 5 have come
        for (int i = 0; i < 2; i++) {
            if (otherFirst == (i == 0)) {
                x.give(1, 5, 1, 0, 0, 0);
            } else {
                x.close(0);
            }
            Check.settle(x);
        }
        if (again) {
            x.mark();
            Check.settle(x);
            x.rescale(3);
            x.rescale(1);
            Check.settle(x);
        }
        Check.same("sessions", x.task(10, 4), 2);
        Check.same("sets of two rows", x.told(12), 2);
        x.close(2);
        Check.settle(x);
        Check.same("one session", x.task(10, 4), 1);
        Check.same("sets of sessions that are put together", x.told(12), otherFirst ? 4 : 3);
        Check.finish(x);
        Check.same("a row of both", Check.rows(x, 0, 2), "28:1,3<0,64>");
    }

    /** "with each row that a source reads that is not LATE (also if nobody takes it)" */
    private static void setsOfRowsThatNobodyTakes() {
        House x = Check.house("a = source 0 (k) lag 0; b = source 1 (k) lag 0; output a;");
        x.give(1, 5, 1, 0, 0, 0);
        x.give(1, 4, 1, 0, 0, 0);
        x.give(1, 5, 1, 0, 0, 0);
        x.start(1, 8, 3);
        Check.settle(x);
        Check.same("sets", x.told(12), 2);
        Check.same("late ones", x.task(1, 6), 1);
        Check.same("rows read", x.task(1, 5), 3);
        x.fail();
        Check.same("they count since start()", x.told(12), 2);
        Check.settle(x);
        Check.same("read again", x.told(12), 4);
        x.start(1, 8, 3);
        Check.same("none yet", x.told(12), 0);
    }

    private static void right(String what, House x, boolean due) {
        Check.same(what, x.twin().onePass() ? 1 : 0, due ? 1 : 0);
    }

    /** "holds it against what is visible" */
    private static void notRightYet() {
        House x = Check.house("a = source 0 (k) lag 0; f = fold a by k span 10 step 10 : n = count; output f;");
        right("nothing is given", x, true);
        x.give(0, 5, 1, 0, 0, 0);
        right("no run", x, false);
        x.start(1, 8, 3);
        Check.settle(x);
        x.mark();
        Check.settle(x);
        right("the span is not over", x, false);
        x.close(0);
        Check.settle(x);
        right("it is pending", x, false);
        x.mark();
        for (int i = 0; i < 200 && x.told(5) == 1; i++) {
            right("it is prepared at most", x, false);
            x.turn(1);
        }
        right("it is visible", x, true);
        x.fail();
        right("it stays", x, true);
        x.start(1, 8, 3);
        right("nothing is visible", x, false);
    }

    /** "of each output just its rows are visible, each as often, in whatever order" */
    private static void eachAsOften() {
        House x = Check.house("a = source 0 (k v) lag 9; output a;");
        x.start(1, 8, 3);
        x.give(0, 5, 1, 1, 0, 0);
        x.give(0, 5, 1, 1, 0, 0);
        x.give(0, 4, 1, 1, 0, 0);
        Check.settle(x);
        x.mark();
        Check.settle(x);
        right("three rows", x, true);
        x.give(0, 5, 1, 1, 0, 0);
        right("one is there too seldom", x, false);
        Check.settle(x);
        x.mark();
        Check.settle(x);
        right("four rows", x, true);
        x.give(0, 4, 1, 2, 0, 0);
        right("one of another column is not there", x, false);
        // as many, but others: what is visible was made without the row that is given now
        House y = Check.house("a = source 0 (k) lag 9; f = fold a by k span 10 step 10 : n = count; output f;");
        y.start(1, 8, 3);
        y.give(0, 5, 1, 0, 0, 0);
        y.give(0, 20, 2, 0, 0, 0);
        Check.settle(y);
        y.mark();
        Check.settle(y);
        Check.same("the first span is over", y.visible(0), 1);
        right("the second one is not", y, false);
        House z = Check.house("a = source 0 (k) lag 9; u = unique a by k within 5; output u;");
        z.start(1, 8, 3);
        z.give(0, 20, 1, 0, 0, 0);
        z.close(0);
        Check.settle(z);
        z.mark();
        Check.settle(z);
        right("right", z, true);
    }

    private static void anyOutput() {
        for (int wrong = 0; wrong < 4; wrong++) {
            StringBuilder text = new StringBuilder("a = source 0 (k) lag 9; b = source 1 (k) lag 9; ");
            for (int o = 0; o < 4; o++) {
                text.append(o == wrong ? "output b; " : "output a; ");
            }
            House x = Check.house(text.toString());
            x.give(0, 5, 1, 0, 0, 0);
            x.give(1, 5, 1, 0, 0, 0);
            x.start(1, 8, 3);
            Check.settle(x);
            x.mark();
            Check.settle(x);
            right("all outputs", x, true);
            x.give(1, 5, 2, 0, 0, 0);
            right("output " + wrong + " lacks a row", x, false);
        }
    }

    /** "those that are not LATE, as they would be read in their order" */
    private static void lateRows() {
        for (int lag : new int[] {0, 3, 1000}) {
            for (int below = -1; below <= 1; below++) {
                House x = Check.house("a = source 0 (k) lag " + lag + "; output a;");
                x.give(0, 5000, 1, 0, 0, 0);
                x.start(1, 8, 3);
                Check.settle(x);
                x.mark();
                Check.settle(x);
                right("one row", x, true);
                x.give(0, 5000 - lag - 1 - below, 1, 0, 0, 0);
                right("one " + below + " below the watermark, lag " + lag, x, below >= 0);
                Check.settle(x);
                x.mark();
                Check.settle(x);
                right("both", x, true);
            }
        }
        // a row is late by those before it, not by those behind it
        House x = Check.house("a = source 0 (k) lag 0; output a;");
        x.give(0, 5, 1, 0, 0, 0);
        x.give(0, 9, 2, 0, 0, 0);
        x.give(0, 5, 3, 0, 0, 0);
        x.give(0, 8, 4, 0, 0, 0);
        x.give(0, 9, 5, 0, 0, 0);
        x.start(1, 8, 3);
        Check.finish(x);
        Check.same("rows", Check.rows(x, 0, 1), "5:1<0> 9:2<1> 9:5<4>");
        right("right", x, true);
    }

    private static void whateverTheRun() {
        House x = Check.house("a = source 0 (k v) lag 4; b = source 1 (l w) lag 2; m = match a by k : v then v = 0 within 9; u = unique a by k within 3; j = join a b by k l within - 4 4;"
            + "o = look a b by k l; g = fold j by k gap 2 : n = count; t = top 2 o by v span 6; output m; output u; output g; output t;");
        for (int i = 0; i < 40; i++) {
            x.give(0, i + i * 7 % 5, i % 3, i % 4, 0, 0);
            x.give(1, i + i * 5 % 4, i % 3, i % 7, 0, 0);
        }
        for (int kind = 0; kind < 8; kind++) {
            House y = x.twin();
            y.start(1 + kind % 4, 1 + kind, kind);
            y.turn(400);
            y.mark();
            y.turn(400);
            y.rescale(1 + (kind + 1) % 4);
            y.turn(200);
            Check.finish(y);
            Check.same("sealed", y.told(6), 0);
            right("run of kind " + kind, y, true);
        }
    }

    /** What an operator keeps at the end is none of the next one's. */
    private static void oneBehindTheOther() {
        String[] operators = {"look a b by k l", "join a b by k l within - 9 9", "match a by k : v then v within 9", "unique a by k within 2", "top 2 a by v span 3",
            "fold a by k gap 2 : n = count", "fold a by k span 4 step 2 : n = count"};
        for (String first : operators) {
            for (String second : operators) {
                House x = Check.house("a = source 0 (k v) lag 9; b = source 1 (l w) lag 9; o = look a b by k l; p = " + first + "; q = look a b by k l; r = " + second
                    + "; output o; output p; output q; output r;");
                for (int i = 0; i < 6; i++) {
                    x.give(0, 5 + i, i % 2, i % 3, 0, 0);
                    x.give(1, 4 + i, i % 2, i % 3, 0, 0);
                }
                x.start(2, 8, 3);
                Check.finish(x);
                right(first + " and " + second, x, true);
                right("and again", x, true);
                x.onePass();
                Check.same("twice of the same object", x.onePass() ? 1 : 0, 1);
            }
        }
    }

    /** "With more than 4000 rows that all operators make together it is not right." Those of sources count, outputs make none. */
    private static void fourThousandRows() {
        String text = "a = source 0 (k) lag 0; b = source 1 (l) lag 0; j = join a b by k l within 0 0; f = filter j : 0; c = source 2 (k) lag 0; output f;";
        House x = Check.house(text.replace("c = source", "e = map j : x = k + l; c = source"));
        give(x, 0, 44);
        give(x, 1, 44);
        // 88 rows, 1936 pairs, 1936 rows of e: 3960
        give(x, 2, 40);
        right("4000 rows", x, true);
        x.give(2, 5, 1, 0, 0, 0);
        right("4001 rows", x, false);
        House y = Check.house(text);
        give(y, 0, 64);
        give(y, 1, 60);
        // 124 rows, 3840 pairs
        give(y, 2, 35);
        right("3999 rows", y, true);
        y.give(2, 5, 1, 0, 0, 0);
        right("4000 rows", y, true);
        // a late one is none
        y.give(2, 4, 1, 0, 0, 0);
        right("4000 rows", y, true);
        y.give(2, 5, 1, 0, 0, 0);
        right("4001 rows", y, false);
        Check.feed(y, "a = source 0 (k) lag 0; output a;");
        y.job();
        right("another job", y, true);
    }

    /** A pass that was too much leaves nothing to the next one. */
    private static void behindTooManyRows() {
        String[] tooMany = {"j = join a b by k l within 0 0; output j;", "j = join a b by k l within 0 0; e = map j : x = 1; output e;",
            "m = map a : x = 1; n = map b : y = 1; j = look a b by k l; i = join a b by k l within 0 0; output i;"};
        String[] next = {"o = join a b by k l within 0 9;", "o = look a b by k l;", "o = match a by k : 1 then 1 within 9;", "o = unique a by k within 2;", "o = top 1 a by k span 3;",
            "o = fold a by k gap 2 : n = count;", "o = fold a by k span 2 step 1 : n = count;"};
        for (String first : tooMany) {
            for (String second : next) {
                House x = Check.house("a = source 0 (k) lag 0; b = source 1 (l) lag 0; " + first);
                give(x, 0, 64);
                give(x, 1, 64);
                Check.same("too many rows", x.onePass() ? 1 : 0, 0);
                Check.same("too many rows", x.onePass() ? 1 : 0, 0);
                Check.feed(x, "a = source 0 (k) lag 0; b = source 1 (l) lag 0; " + second + " output o;");
                x.job();
                Check.same("nothing is given", x.onePass() ? 1 : 0, 1);
                give(x, 0, 3);
                give(x, 1, 2);
                x.start(1, 8, 1);
                Check.finish(x);
                Check.same("right: " + second, x.onePass() ? 1 : 0, 1);
            }
        }
    }

    private static void give(House x, int source, int n) {
        for (int i = 0; i < n; i++) {
            x.give(source, 5, 1, 0, 0, 0);
        }
    }
}
