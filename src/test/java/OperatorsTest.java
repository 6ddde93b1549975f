/** Part 4 and 6 of the document by what comes out (promises 15 to 18), whatever the run's parallel, room and seed are. */
public final class OperatorsTest {
    private static final String A = "a = source 0 (k v) lag 10; ";
    private static final String AB = A + "b = source 1 (l w) lag 10; ";

    public static void main(String[] args) {
        straight();
        foldBySpans();
        foldByGaps();
        join();
        look();
        match();
        unique();
        top();
        chained();
        lookAfterDropping();
        joinAfterDropping();
        aside();
        sets();
        waiting();
        Check.end();
    }

    /** The rows of output 0, from runs of several kinds, with and without failures and other numbers of tasks. */
    private static void out(String text, int columns, String due, long[]... rows) {
        for (int kind = 0; kind < 24; kind++) {
            House x = Check.house(text);
            Check.give(x, rows);
            x.start(1 + kind % 4, 1 + kind % 8, kind * 1234567L);
            if (kind >= 8) {
                x.turn(10 * kind);
                x.mark();
                x.turn(100);
                if (x.visible(0) > 0) {
                    // rows of an earlier mark stand first, whatever their order
                    x.start(1 + kind % 4, 1 + kind % 8, kind);
                    x.turn(10 * kind);
                }
                if (kind % 3 == 0) {
                    x.fail();
                } else {
                    x.rescale(1 + (kind + kind / 4) % 4);
                }
            }
            Check.finish(x);
            Check.same("run of kind " + kind + " of " + text, Check.rows(x, 0, columns), due);
            Check.same("one pass", x.onePass() ? 1 : 0, 1);
            Check.same("pending", x.told(11), 0);
        }
    }

    private static void straight() {
        out(A + "f = filter a : v / k > 1; output f;", 2, "1:1,4<0> 9:1,3<3>",
            Check.row(0, 1, 1, 4), Check.row(0, 2, 0, 4), Check.row(0, 3, 2, 2), Check.row(0, 9, 1, 3));
        out(A + "m = map a : s = k + v * 2, t = time, q = v % k; output m;", 3, "4:-11,4,-1<0>",
            Check.row(0, 4, 3, -7), Check.row(0, 5, 0, 1));
        out(AB + "c = map b : k = l, v = w; u = union a c; output u;", 2, "1:2,5<64> 2:7,7<0> 2:7,8<65>",
            Check.row(0, 2, 7, 7), Check.row(1, 1, 2, 5), Check.row(1, 2, 7, 8));
        out(A + "u = union a a; output u;", 2, "2:7,7<0> 2:7,7<0>", Check.row(0, 2, 7, 7));
        out(A + "output a;", 2, "1:5,5<1> 2:-9,4<3> 2:-9,5<2> 2:7,7<0>",
            Check.row(0, 2, 7, 7), Check.row(0, 1, 5, 5), Check.row(0, 2, -9, 5), Check.row(0, 2, -9, 4));
    }

    private static void foldBySpans() {
        out(A + "f = fold a by k span 4 step 2 : n = count, s = sum v, x = least v, y = most v; output f;", 5,
            "1:1,2,12,5,7<0,1> 1:2,1,1,1,1<2> 3:1,2,12,5,7<0,1> 3:2,1,1,1,1<2> 5:1,1,-3,-3,-3<3> 7:1,1,-3,-3,-3<3>",
            Check.row(0, 0, 1, 5), Check.row(0, 1, 1, 7), Check.row(0, 1, 2, 1), Check.row(0, 5, 1, -3));
        out(A + "f = fold a by v span 8 step 1 : n = count; output f;", 2,
            "3:6,1<0> 4:6,1<0> 5:6,1<0> 6:6,1<0> 7:6,1<0> 8:6,1<0> 9:6,1<0> 10:6,1<0>", Check.row(0, 3, 1, 6));
        // of all VALUES of a fold none may be bad
        out(A + "f = fold a by k span 5 step 5 : n = count, s = sum 6 / v; output f;", 3, "4:1,1,3<1>",
            Check.row(0, 1, 1, 0), Check.row(0, 2, 1, 2));
    }

    private static void foldByGaps() {
        out(A + "f = fold a by k gap 3 : n = count, s = sum v, x = least v, y = most v; output f;", 5,
            "8:1,4,15,1,8<0,1,2,4> 8:2,1,9,9,9<3> 22:1,1,7,7,7<5>",
            Check.row(0, 1, 1, 1), Check.row(0, 3, 1, 2), Check.row(0, 6, 1, 8), Check.row(0, 6, 2, 9),
            Check.row(0, 5, 1, 4), Check.row(0, 20, 1, 7));
        out(A + "f = fold a by k gap 3 : n = count; output f;", 2, "3:1,1<0> 6:1,1<1>",
            Check.row(0, 1, 1, 1), Check.row(0, 4, 1, 2));
        out(A + "f = fold a by k gap 3 : n = count; output f;", 2, "3:1,1<1> 6:1,1<0>",
            Check.row(0, 4, 1, 1), Check.row(0, 1, 1, 2));
        out(A + "f = fold a by k gap 3 : n = count; output f;", 2, "5:1,2<0,1>",
            Check.row(0, 3, 1, 1), Check.row(0, 1, 1, 2));
        out(A + "f = fold a by k gap 1 : n = count; output f;", 2, "3:1,2<0,1> 4:1,1<2>",
            Check.row(0, 3, 1, 1), Check.row(0, 3, 1, 2), Check.row(0, 4, 1, 2));
    }

    private static void join() {
        out(AB + "j = join a b by k l within - 1 2; output j;", 4, "5:1,10,1,20<0,64> 7:1,10,1,21<0,65> 11:1,11,1,23<1,67>",
            Check.row(0, 5, 1, 10), Check.row(0, 9, 1, 11), Check.row(1, 4, 1, 20), Check.row(1, 7, 1, 21),
            Check.row(1, 8, 2, 22), Check.row(1, 11, 1, 23));
        out(AB + "j = join a b by v l within 3 5; output j;", 4, "8:9,1,1,6<0,65> 10:9,1,1,7<0,66>",
            Check.row(0, 5, 9, 1), Check.row(1, 7, 1, 5), Check.row(1, 8, 1, 6), Check.row(1, 10, 1, 7), Check.row(1, 11, 1, 8));
        out(AB + "j = join a b by k l within - 5 - 3; output j;", 4, "11:1,5,1,2<0,64>",
            Check.row(0, 11, 1, 5), Check.row(1, 8, 1, 2), Check.row(1, 9, 1, 3));
    }

    private static void look() {
        out(AB + "j = look a b by k l; output j;", 4, "5:1,1,1,3<0,66> 7:1,9,1,3<3,66>",
            Check.row(0, 5, 1, 1), Check.row(0, 2, 1, 2), Check.row(0, 8, 2, 3), Check.row(0, 7, 1, 9),
            Check.row(1, 3, 1, 1), Check.row(1, 5, 1, 2), Check.row(1, 5, 1, 3), Check.row(1, 9, 2, 4), Check.row(1, 5, 1, -3));
        // the second input's rows are in order by all of their columns, the first one's by theirs
        out("a = source 0 (k) lag 9; b = source 1 (l w x) lag 9; j = look a b by k l; output j;", 4, "5:1,1,2,8<0,65>",
            Check.row(0, 5, 1), Check.row(1, 4, 1, 2, 7), Check.row(1, 4, 1, 2, 8), Check.row(1, 4, 1, 1, 9));
        out("a = source 0 (k) lag 0; b = source 1 (l w x) lag 0; j = look a b by k l; output j;", 4, "9:1,1,2,8<0,65>",
            Check.row(0, 9, 1), Check.row(1, 4, 1, 2, 7), Check.row(1, 4, 1, 2, 8), Check.row(1, 4, 1, 1, 9), Check.row(1, 10, 1, 1, 1));
        // of equal ones that which came first
        out(AB + "j = look a b by k l; output j;", 4, "5:1,1,1,2<0,64>",
            Check.row(0, 5, 1, 1), Check.row(1, 4, 1, 2), Check.row(1, 4, 1, 2));
    }

    private static void match() {
        String three = A + "m = match a by k : v = 1 then v = 2 then v = 3 within 5; output m;";
        out(three, 3, "6:1,1,6<0,2,3> 6:1,2,6<1,2,3>",
            Check.row(0, 1, 1, 1), Check.row(0, 2, 1, 1), Check.row(0, 3, 1, 2), Check.row(0, 6, 1, 3), Check.row(0, 7, 1, 3));
        // what lies between does not end it, more than within before does
        out(three, 3, "9:1,4,9<1,4,5>",
            Check.row(0, 3, 1, 1), Check.row(0, 4, 1, 1), Check.row(0, 5, 1, 9), Check.row(0, 6, 2, 3), Check.row(0, 7, 1, 2),
            Check.row(0, 9, 1, 3));
        // rows go in order, also when they came otherwise
        out(A + "m = match a by k : v = 1 then v = 2 within 0; output m;", 3, "5:7,5,5<0,1>",
            Check.row(0, 5, 7, 2), Check.row(0, 5, 7, 1));
        // a row that begins one does not go on by itself
        out(A + "m = match a by k : 1 then 1 within 10; output m;", 3, "2:1,1,2<0,1> 3:1,2,3<1,2>",
            Check.row(0, 1, 1, 0), Check.row(0, 2, 1, 0), Check.row(0, 3, 1, 0));
        // of all VALUES of a match none may be bad
        out(A + "m = match a by k : 1 then 6 / v then 1 then 1 within 10; output m;", 3, "5:1,2,5<1,2,3,4>",
            Check.row(0, 1, 1, 0), Check.row(0, 2, 1, 1), Check.row(0, 3, 1, 2), Check.row(0, 4, 1, 3), Check.row(0, 5, 1, 4));
    }

    private static void unique() {
        out(A + "u = unique a by k within 3; output u;", 2, "1:1,1<0> 4:1,3<4> 6:2,4<3> 8:1,5<5>",
            Check.row(0, 1, 1, 1), Check.row(0, 3, 1, 2), Check.row(0, 6, 1, 4), Check.row(0, 6, 2, 4), Check.row(0, 4, 1, 3),
            Check.row(0, 8, 1, 5));
        out(A + "u = unique a by k within 1; output u;", 2, "5:1,1<1> 6:1,0<2>",
            Check.row(0, 5, 1, 2), Check.row(0, 5, 1, 1), Check.row(0, 6, 1, 0));
    }

    private static void top() {
        out(A + "t = top 2 a by v span 5; output t;", 3, "4:2,9,1<1> 4:3,9,2<2> 9:5,0,1<4>",
            Check.row(0, 0, 1, 3), Check.row(0, 1, 2, 9), Check.row(0, 4, 3, 9), Check.row(0, 2, 4, 1), Check.row(0, 6, 5, 0));
        out(A + "t = top 9 a by k span 5; output t;", 3, "4:1,2,3<0> 4:2,1,2<2> 4:2,5,1<1>",
            Check.row(0, 4, 1, 2), Check.row(0, 3, 2, 5), Check.row(0, 4, 2, 1));
    }

    private static void chained() {
        // a fold's rows have times of their own, and go on through what follows
        out(A + "f = fold a by k span 5 step 5 : n = count; t = top 1 f by n span 10; m = map t : k = k, n = n * 10; output m;", 2,
            "9:2,20<0,1> 19:1,10<3>",
            Check.row(0, 1, 2, 0), Check.row(0, 2, 2, 0), Check.row(0, 6, 1, 0), Check.row(0, 12, 1, 0));
        out(AB + "f = fold a by k gap 2 : n = count; j = join f b by k l within 0 3; u = unique j by l within 100; output u;", 4,
            "5:1,2,1,7<0,1,64>",
            Check.row(0, 2, 1, 0), Check.row(0, 3, 1, 0), Check.row(1, 5, 1, 7), Check.row(1, 7, 1, 8));
    }

    /** Of equal rows the first one is kept, and looked up later. */
    private static void lookAfterDropping() {
        House x = Check.house("a = source 0 (k v) lag 0; b = source 1 (l w) lag 0; j = look a b by k l; output j;");
        x.start(2, 3, 8);
        Check.give(x, Check.row(0, 20, 2, 0), Check.row(1, 4, 1, 5), Check.row(1, 4, 1, 5), Check.row(1, 3, 1, 9), Check.row(1, 20, 2, 0));
        Check.settle(x);
        Check.give(x, Check.row(0, 21, 1, 7));
        Check.finish(x);
        Check.same("rows", Check.rows(x, 0, 4), "20:2,0,2,0<0,67> 21:1,7,1,5<1,64>");
    }

    /** Rows that can't be joined any more go, whichever came before them. */
    private static void joinAfterDropping() {
        House x = Check.house(AB + "j = join a b by k l within 0 2; i = join b a by l k within - 2 0; output j; output i;");
        x.start(2, 3, 8);
        Check.give(x, Check.row(0, 20, 1, 1), Check.row(0, 12, 1, 2), Check.row(0, 25, 1, 3), Check.row(1, 25, 1, 4));
        Check.settle(x);
        long held = 0;
        for (int t = 2; t < 6; t++) {
            held += x.task(t, 4);
        }
        Check.same("rows at 20 and 25, twice", held, 6);
        Check.give(x, Check.row(1, 21, 1, 5));
        Check.finish(x);
        Check.same("rows of j", Check.rows(x, 0, 4), "21:1,1,1,5<0,65> 25:1,3,1,4<2,64>");
        Check.same("rows of i", Check.rows(x, 1, 4), "21:1,5,1,1<0,65> 25:1,4,1,3<2,64>");
    }

    /** Rows that go aside are counted, and nothing else comes of them. */
    private static void aside() {
        String[] operators = {"filter a : 1 / v", "map a : x = 1, y = 1 % v", "fold a by k gap 3 : n = count, x = most 1 / v",
            "fold a by k span 2 step 1 : n = count, x = sum 1 / v, y = count", "match a by k : 1 then 1 then 1 / v within 4"};
        for (String operator : operators) {
            House x = Check.house(A + "f = " + operator + "; output f;");
            Check.give(x, Check.row(0, 3, 1, 0), Check.row(0, 4, 1, 0));
            x.start(1, 2, 3);
            Check.finish(x);
            Check.same("aside of " + operator, x.task(1, 6), 2);
            Check.same("rows of " + operator, x.visible(0), 0);
            Check.same("right", x.onePass() ? 1 : 0, 1);
        }
    }

    /** How many sets are made. */
    private static void sets() {
        made("output a;", 3);
        made("f = filter a : 0; output f;", 3);
        made("u = union a a; output u;", 3);
        made("f = fold a by k span 10 step 5 : n = count; output f;", 3 + 2 * 2);
        made("f = fold a by k gap 10 : n = count; output f;", 3 + 2);
        made("m = map a : l = k, w = v; j = join a m by k l within 0 0; output j;", 3);
        made("m = map a : l = k, w = v; j = join a m by k l within 0 10; output j;", 3 + 3);
        made("m = map a : l = k, w = v; j = look a m by k l; output j;", 3);
        made("m = match a by k : 1 then 1 within 10; output m;", 3 + 2);
        made("m = match a by k : 1 then 1 then 1 within 10; output m;", 3 + 3);
        made("u = unique a by k within 5; output u;", 3);
        made("t = top 3 a by k span 5; output t;", 3);
    }

    private static void made(String rest, int due) {
        House x = Check.house("a = source 0 (k v) lag 0; " + rest);
        Check.give(x, Check.row(0, 1, 1, 1), Check.row(0, 2, 1, 2), Check.row(0, 3, 1, 3), Check.row(0, 2, 1, 4));
        x.start(3, 2, 11);
        Check.finish(x);
        Check.same("sets of " + rest, x.told(12), due);
        Check.same("late", x.task(0, 6), 1);
    }

    /** What waits, and when it goes. */
    private static void waiting() {
        held("j = join a b by k l within - 2 3; output j;", new int[][] {
            // first rows till W is time + 3, second ones till W is time + 2
            {0, 10, 1}, {1, 10, 2}, {0, 13, 3}, {1, 13, 3}, {0, 14, 4}, {1, 14, 4}, {0, 40, 5}, {1, 40, 2}});
        held("j = look a b by k l; output j;", new int[][] {
            {0, 10, 1}, {1, 10, 2}, {0, 11, 3}, {1, 11, 3}, {1, 12, 4}, {0, 12, 3}, {0, 40, 4}, {1, 40, 3}});
        // equal ones: the first one stays
        held("j = look a b by k l; output j;", new int[][] {
            {1, 10, 1}, {1, 10, 2}, {1, 10, 3}, {1, 12, 4}, {0, 13, 3}, {0, 20, 4}, {1, 21, 3}});
        House x = Check.house("a = source 0 (k v) lag 0; m = match a by k : v then v within 2; u = unique a by k within 2;"
            + "t = top 1 a by k span 4; output a;");
        x.start(1, 8, 5);
        int[][] due = {
            // time, v, and records of match (rows and PARTIAL ones), unique (rows and a KEY), top
            {4, 1, 1, 1, 1}, {5, 1, 2, 2, 2}, {6, 0, 2, 1, 3}, {7, 0, 2, 2, 4}, {8, 0, 1, 1, 1}, {9, 0, 1, 2, 2}};
        for (int[] d : due) {
            x.give(0, d[0], 1, d[1], 0, 0);
            Check.settle(x);
            Check.same("match at " + d[0], x.task(1, 4), d[2]);
            Check.same("unique at " + d[0], x.task(2, 4), d[3]);
            Check.same("top at " + d[0], x.task(3, 4), d[4]);
        }
    }

    /** Rows of a KEY: source, time, and how many records there are then. */
    private static void held(String rest, int[][] rows) {
        House x = Check.house("a = source 0 (k v) lag 0; b = source 1 (l w) lag 0; " + rest);
        x.start(1, 8, 5);
        for (int[] r : rows) {
            x.give(r[0], r[1], 1, 0, 0, 0);
            Check.settle(x);
            Check.same("records at " + r[1] + " of " + r[0] + " in " + rest, x.task(2, 4), r[2]);
        }
    }
}
