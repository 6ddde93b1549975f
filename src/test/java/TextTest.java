/** Promises 2 to 5: feed, job, fault, operator. */
public final class TextTest {
    private static final String HEAD = "a = source 0 (k v) lag 1; ";

    public static void main(String[] args) {
        feeding();
        faults();
        deepness();
        limits();
        faultKeepsJob();
        operators();
        values();
        Check.end();
    }

    private static void feeding() {
        House x = new House();
        Check.argument("feed of 0 bytes", () -> x.feed(1, 0));
        Check.argument("feed of 9 bytes", () -> x.feed(1, 9));
        Check.argument("feed of -1 bytes", () -> x.feed(1, -1));
        Check.same("feed", x.feed(0x1122334455667788L, 8), 8);
        Check.same("feed", x.feed(-1, 1), 9);
        Check.same("tape", x.told(14), 9);
        House full = new House();
        for (int i = 0; i < 187; i++) {
            full.feed(0x2020202020202020L, 8);
        }
        Check.same("tape", full.told(14), 1496);
        Check.room("feed of 5 more", () -> full.feed(0, 5));
        Check.argument("feed of 9 more", () -> full.feed(0, 9));
        Check.same("feed of 4 more", full.feed(0x20202020, 4), 1500);
        Check.room("feed of 1 more", () -> full.feed(0, 1));
        Check.same("job of blanks", full.job(), -1501);
        Check.same("fault of blanks", full.fault(), 3);
        Check.same("tape is used up", full.told(14), 0);
        House highest = new House();
        highest.feed(0x7A7A7A7A7A613D73L, 3);
        Check.same("a=s, the highest byte first", highest.job(), -3);
        Check.same("a=s, s is no operator", highest.fault(), 4);
    }

    private static void faults() {
        Check.fault(1, "^A = source 0 (k) lag 0; output a;");
        Check.fault(1, HEAD + "b = filter a : k ^. 1; output b;");
        Check.fault(1, HEAD + "output a; ^\u00e9");
        Check.fault(1, HEAD + "output a; ^\u007f");
        Check.fault(2, "a = source ^0000000000000000000 (k) lag 0;");
        Check.fault(2, "a ^1234567890123456789");
        Check.good(HEAD + "b = filter a : 123456789012345678; output b;", 3);
        Check.fault(3, "^");
        Check.fault(3, HEAD + "^");
        Check.fault(3, HEAD + "output a^");
        Check.fault(3, HEAD + "b = filter a : (k^");
        Check.fault(4, "^source = source 0 (k) lag 0;");
        Check.fault(4, "^7 = source 0 (k) lag 0;");
        Check.fault(4, "^sevenab = source 0 (k) lag 0;");
        Check.fault(4, "a ^: source 0 (k) lag 0;");
        Check.fault(4, "a = ^output b;");
        Check.fault(4, "a = ^count 0 (k) lag 0;");
        Check.fault(4, "a = source 0 (^) lag 0;");
        Check.fault(4, "a = source 0 (k^, v) lag 0;");
        Check.fault(4, HEAD + "b = filter a : k < 1 ^= 2; output b;");
        Check.fault(4, HEAD + "b = filter a : k ^v; output b;");
        Check.fault(4, HEAD + "b = filter a : ^; output b;");
        Check.fault(4, HEAD + "b = fold a by k ^within 3 : n = count; output b;");
        Check.fault(4, HEAD + "b = fold a by k gap 3 : n = ^time; output b;");
        Check.fault(4, HEAD + "b = match a by k : v ^within 3; output b;");
        Check.fault(4, HEAD + "b = map a : n = k, ^; output b;");
        Check.fault(5, "a = filter ^a : 1; output a;");
        Check.fault(5, HEAD + "b = filter a : ^w; output b;");
        Check.fault(5, HEAD + "b = unique a by ^w within 1; output b;");
        Check.fault(5, HEAD + "b = source 1 (l) lag 0; c = join a b by k ^k within 0 0; output c;");
        Check.fault(5, HEAD + "output ^b;");
        Check.fault(6, HEAD + "^a = filter a : 1; output a;");
        Check.fault(6, "a = source 0 (k v ^k) lag 0; output a;");
        Check.fault(6, HEAD + "b = map a : n = 1, ^n = 2; output b;");
        Check.fault(6, HEAD + "b = fold a by k gap 3 : ^k = count; output b;");
        Check.fault(6, HEAD + "b = join a ^a by k k within 0 0; output b;");
        Check.fault(6, HEAD + "b = look a ^a by k k; output b;");
        Check.fault(6, HEAD + "b = source 1 (k) lag 0; c = look a ^b by k k; output c;");
        Check.fault(6, HEAD + "b = source 1 (w v) lag 0; c = join a ^b by k w within 0 0; output c;");
        Check.fault(6, HEAD + "b = map a : rank = k; c = top 1 ^b by rank span 5; output c;");
        Check.fault(6, HEAD + "b = map a : from = k; c = match b by ^from : 1 then 1 within 3; output c;");
        Check.fault(6, HEAD + "b = map a : to = k; c = match b by ^to : 1 then 1 within 3; output c;");
        Check.fault(7, "a = source ^4 (k) lag 0;");
        Check.fault(7, HEAD + "b = source ^0 (k) lag 0;");
        Check.fault(7, "a = source 0 (k) lag ^1001; output a;");
        Check.fault(7, HEAD + "b = fold a by k span ^0 step 1 : n = count; output b;");
        Check.fault(7, HEAD + "b = fold a by k span ^1001 step 1000 : n = count; output b;");
        Check.good(HEAD + "b = fold a by k span 1000 step 1000 : n = count; output b;", 3);
        Check.fault(7, HEAD + "b = fold a by k span 5 step ^6 : n = count; output b;");
        Check.fault(7, HEAD + "b = fold a by k span 17 step ^2 : n = count; output b;");
        Check.good(HEAD + "b = fold a by k span 16 step 2 : n = count; output b;", 3);
        Check.fault(7, HEAD + "b = fold a by k gap ^1001 : n = count; output b;");
        Check.fault(7, HEAD + "b = source 1 (l) lag 0; c = join a b by k l within 3 ^2; output c;");
        Check.fault(7, HEAD + "b = source 1 (l) lag 0; c = join a b by k l within - 3 - ^4; output c;");
        Check.fault(7, HEAD + "b = source 1 (l) lag 0; c = join a b by k l within - ^1001 4; output c;");
        Check.good(HEAD + "b = source 1 (l) lag 0; c = join a b by k l within - 4 - 4; output c;", 4);
        Check.fault(7, HEAD + "b = match a by k : 1 then 1 within ^1001; output b;");
        Check.fault(7, HEAD + "b = unique a by k within ^0; output b;");
        Check.fault(7, HEAD + "b = top ^0 a by k span 5; output b;");
        Check.fault(7, HEAD + "b = top ^10 a by k span 5; output b;");
        Check.fault(8, HEAD + "b = source 1 (v k) lag 0; c = union a ^b; output c;");
        Check.fault(8, HEAD + "b = source 1 (k) lag 0; c = union a ^b; output c;");
        Check.fault(8, HEAD + "b = source 1 (w v) lag 0; c = union a ^b; output c;");
        Check.fault(8, HEAD + "b = source 1 (k w) lag 0; c = union a ^b; output c;");
        Check.fault(8, "a = source 0 (k v w x ^y) lag 0; output a;");
        Check.fault(8, HEAD + "b = fold a by k gap 3 : n = count, m = count, o = count, p = count, ^q = count; output b;");
        Check.fault(8, HEAD + "b = match a by k : 1 then 1 then 1 then 1 ^then 1 within 3; output b;");
        Check.fault(8, HEAD + "output a; output a; output a; output a; ^output a;");
        String eight = "b = map a : c = 1, d = 1, e = 1, f = 1, g = 1, h = 1, i = 1, j = 1";
        Check.good(HEAD + eight + "; output b;", 3);
        Check.fault(8, HEAD + eight + ", ^l = 1; output b;");
        Check.fault(6, HEAD + eight + ", ^j = 1; output b;");
        Check.fault(8, HEAD + eight + "; z = look a ^b by k c; output z;");
        Check.fault(8, HEAD + eight + "; z = top 1 ^b by c span 5; output z;");
    }

    private static void deepness() {
        Check.good(HEAD + "b = filter a : ((((((((((k)))))))))) + ((((((((((k)))))))))); output b;", 3);
        Check.fault(9, HEAD + "b = filter a : ((((((((((^(k))))))))))); output b;");
        Check.good(HEAD + "b = filter a : -!-!-!-!-!k - -!-!-!-!-!k; output b;", 3);
        Check.fault(9, HEAD + "b = filter a : -!-!-!-!-!^(k); output b;");
        Check.fault(9, HEAD + "b = filter a : -!-!-!-!-!^-k; output b;");
        Check.fault(9, HEAD + "b = filter a : -!-!-!-!-!^!k; output b;");
        Check.fault(9, HEAD + "b = filter a : " + "1 ? ".repeat(10) + "1 ^? 1 : 1; output b;");
        Check.good(HEAD + "b = filter a : " + "1 ? 2 : ".repeat(10) + "1; output b;", 3);
        Check.fault(9, HEAD + "b = filter a : " + "1 ? 2 : ".repeat(10) + "1 ^? 2 : 3; output b;");
    }

    private static void limits() {
        StringBuilder many = new StringBuilder(HEAD);
        for (char c = 'b'; c <= 'o'; c++) {
            many.append(c).append(" = filter a : 1; ");
        }
        Check.good(many + "output a;", 16);
        Check.fault(9, many + "output a; ^output a;");
        Check.fault(9, many + "p = filter a : 1; ^q = filter a : 1;");
        Check.fault(6, many + "p = filter a : 1; ^p = filter a : 1;");
        Check.fault(4, many + "p = filter a : 1; ^5");
        Check.fault(3, many + "p = filter a : 1; ^");
        StringBuilder outputs = new StringBuilder(HEAD);
        for (char c = 'b'; c <= 'l'; c++) {
            outputs.append(c).append(" = filter a : 1; ");
        }
        Check.fault(8, outputs + "output a; output a; output a; output a; ^output a;");
    }

    private static void faultKeepsJob() {
        House x = Check.house(HEAD + "output a;");
        x.give(0, 5, 1, 2, 0, 0);
        x.start(1, 1, 1);
        Check.feed(x, HEAD);
        Check.same("job with a fault", x.job(), -1 - HEAD.length());
        Check.same("operators stay", x.told(0), 2);
        Check.same("the run stays", x.told(1), 2);
        Check.same("what was given stays", x.give(0, 5, 1, 2, 0, 0), 1);
        Check.same("its fault", x.fault(), 3);
        Check.feed(x, "b = source 1 (k) lag 0; output b; output b;");
        Check.same("another job", x.job(), 3);
        Check.same("no fault", x.fault(), 0);
        Check.same("no run", x.told(1), 0);
        Check.same("outputs", x.told(13), 2);
        Check.state("source 0 is none any more", () -> x.give(0, 5, 1, 2, 0, 0));
        Check.same("nothing is given", x.give(1, 5, 1, 2, 0, 0), 0);
        x.close(1);
        Check.feed(x, "b = source 1 (k) lag 0; output b;");
        x.job();
        Check.same("nothing is closed", x.close(1) ? 1 : 0, 1);
    }

    private static void operators() {
        House x = Check.house("ab = source 3 (key num) lag 9; b = source 0 (l) lag 0; f = filter ab : 1;"
            + "m = map b : x = l; u = union f ab; s = fold u by num span 2 step 1 : n = count, abcdef = sum num;"
            + "g = fold u by key gap 1 : n = count; j = join ab b by key l within 0 0; o = look j m by l x;"
            + "t = match o by x : 1 then 1 within 0; q = unique t by from within 1; p = top 9 q by to span 1; output p;");
        long[][] due = {
            {0, -1, -1, 2, name("key"), name("num")},
            {0, -1, -1, 1, name("l")},
            {1, 0, -1, 2, name("key"), name("num")},
            {2, 1, -1, 1, name("x")},
            {3, 2, 0, 2, name("key"), name("num")},
            {4, 4, -1, 3, name("num"), name("n"), name("abcdef")},
            {5, 4, -1, 2, name("key"), name("n")},
            {6, 0, 1, 3, name("key"), name("num"), name("l")},
            {7, 7, 3, 4, name("key"), name("num"), name("l"), name("x")},
            {8, 8, -1, 3, name("x"), name("from"), name("to")},
            {9, 9, -1, 3, name("x"), name("from"), name("to")},
            {10, 10, -1, 4, name("x"), name("from"), name("to"), name("rank")},
            {11, 11, -1, 4, name("x"), name("from"), name("to"), name("rank")}};
        for (int o = 0; o < due.length; o++) {
            for (int what = 0; what <= 11; what++) {
                Check.same("operator(" + o + ", " + what + ")", x.operator(o, what), what < due[o].length ? due[o][what] : 0);
            }
        }
        Check.index("operator 13", () -> x.operator(13, 0));
        Check.index("operator -1", () -> x.operator(-1, 99));
        Check.argument("what 12", () -> x.operator(0, 12));
        Check.argument("what -1", () -> x.operator(0, -1));
        Check.index("operator without a job", () -> new House().operator(0, 0));
    }

    private static long name(String word) {
        long bytes = 0;
        for (char c : word.toCharArray()) {
            bytes = bytes << 8 | c;
        }
        return bytes;
    }

    /** A VALUE for the row k = 7, v = -3 at time 20, which goes aside if it is bad. */
    private static void value(String text, long due, boolean bad) {
        House x = Check.house(HEAD + "b = map a : x = " + text + "; output b;");
        x.give(0, 20, 7, -3, 0, 0);
        x.start(1, 8, 1);
        Check.finish(x);
        Check.same("rows of " + text, x.visible(0), bad ? 0 : 1);
        if (!bad) {
            Check.same(text, x.row(0, 0, 0), due);
        }
        Check.same("aside of " + text, x.task(1, 6), bad ? 1 : 0);
    }

    private static void values() {
        value("k + v * 2", 1, false);
        value("0 | 2 > 1 + 2 * (".repeat(10) + "0" + ")".repeat(10), 0, false);
        value("1 & 0 < 1 + 2 * (".repeat(10) + "3" + ")".repeat(10), 1, false);
        value("k" + "+k".repeat(600), 4207, false);
        value("(k + v) * 2", 8, false);
        value("k - v - 1", 9, false);
        value("v / 2", -1, false);
        value("v % 2", -1, false);
        value("k % -4", 3, false);
        value("100 / 5 / 2", 10, false);
        value("-k * 2", -14, false);
        value("- - k", 7, false);
        value("!k", 0, false);
        value("!!k", 1, false);
        value("!v + 5", 5, false);
        value("-!0", -1, false);
        value("time", 20, false);
        value("k < 8", 1, false);
        value("k > 8", 0, false);
        value("k > 6", 1, false);
        value("k > 7", 0, false);
        value("k < 7", 0, false);
        value("k = 6", 0, false);
        value("k = 7", 1, false);
        value("k = 7 & v", 1, false);
        value("k + 1 = 8", 1, false);
        value("5 | 0", 1, false);
        value("0 | 5", 1, false);
        value("0 | 0", 0, false);
        value("5 & 6", 1, false);
        value("1 | k / 0", 1, false);
        value("0 & k / 0", 0, false);
        value("0 | k / 0", 0, true);
        value("1 & k % 0", 0, true);
        value("k / 0", 0, true);
        value("k % (v + 3)", 0, true);
        value("0 * (1 / 0)", 0, true);
        value("1 ? 2 : 3", 2, false);
        value("0 ? 2 : 3", 3, false);
        value("1 ? 2 : 1 / 0", 2, false);
        value("0 ? 1 / 0 : 3", 3, false);
        value("0 ? 1 : 0 ? 2 : 3", 3, false);
        value("1 ? 0 ? 4 : 5 : 6", 5, false);
        value("0 | 1 ? 2 : 3", 2, false);
        value("9223372036854775 * 1000 + 807 + 1", Long.MIN_VALUE, false);
        value("(0 - 9223372036854775 * 1000 - 808) / -1", Long.MIN_VALUE, false);
        value("(0 - 9223372036854775 * 1000 - 808) % -1", 0, false);
        // as | and & bind alike, from the left
        value("1 | 0 & 0", 0, false);
        value("0 & 0 | 1", 1, false);
    }
}
