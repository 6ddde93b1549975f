/** Part 2 of the document, statement by statement, at every edge: its numbers, NAMES and columns (promises 3 to 5). */
public final class StatementsTest {
    private static final String A = "a = source 0 (k v) lag 1; ";
    private static final String AB = A + "b = source 1 (l w) lag 1; ";
    private static final String EIGHT = "h = map a : a = 1, b = 1, c = 1, d = 1, e = 1, f = 1, g = 1, h = 1; ";

    public static void main(String[] args) {
        numbers();
        spanAndStep();
        theTwoOfWithin();
        sourcesOnce();
        howManyStatements();
        howManyOutputs();
        howManyColumns();
        howManyValuesOfMatch();
        columnsOfTwo();
        sameColumns();
        unknownInputs();
        unknownColumns();
        namesAgain();
        whatCannotStand();
        firstOfSeveral();
        onlyTheFirstFault();
        narrowerJobs();
        Check.end();
    }

    /** A # stands for the number; its bounds, and one beyond each. */
    private static void bounds(String text, int least, int most) {
        String marked = text.replace("#", "^#");
        int operators = text.split(";").length;
        Check.good(text.replace("#", "" + least), operators);
        Check.good(text.replace("#", "" + (least + 1)), operators);
        Check.good(text.replace("#", "" + (most - 1)), operators);
        Check.good(text.replace("#", "" + most), operators);
        Check.good(text.replace("#", "00" + most), operators);
        Check.fault(7, marked.replace("#", "" + (most + 1)));
        Check.fault(7, marked.replace("#", "" + (most + 65536)));
        Check.fault(7, marked.replace("#", "" + ((1L << 32) + least)));
        if (least > 0) {
            Check.fault(7, marked.replace("#", "" + (least - 1)));
        }
        Check.fault(4, marked.replace("#", "- " + most));
    }

    private static void numbers() {
        bounds("a = source # (k) lag 1; output a;", 0, 3);
        bounds("a = source 0 (k) lag #; output a;", 0, 1000);
        bounds(A + "f = fold a by k gap # : n = count; output f;", 1, 1000);
        bounds(A + "m = match a by k : 1 then 1 within #; output m;", 0, 1000);
        bounds(A + "u = unique a by k within #; output u;", 1, 1000);
        bounds(A + "t = top # a by k span 5; output t;", 1, 9);
        bounds(A + "t = top 5 a by k span #; output t;", 1, 1000);
        // with a step that goes with each of them
        bounds(A + "f = fold a by k span 1000 step # : n = count; output f;", 125, 1000);
        Check.fault(7, A + "f = fold a by k span ^0 step 1 : n = count; output f;");
        Check.good(A + "f = fold a by k span 1 step 1 : n = count; output f;", 3);
        Check.good(A + "f = fold a by k span 1000 step 1000 : n = count; output f;", 3);
        Check.fault(7, A + "f = fold a by k span ^1001 step 1000 : n = count; output f;");
        Check.fault(7, A + "f = fold a by k span 1 step ^0 : n = count; output f;");
        Check.fault(7, A + "f = fold a by k span 1000 step ^1001 : n = count; output f;");
    }

    /** "step not above span, span not above 8 times step"; "at the second one" */
    private static void spanAndStep() {
        for (int step = 1; step <= 5; step++) {
            for (int span = 1; span <= 42; span++) {
                String text = A + "f = fold a by k span " + span + " step ^" + step + " : n = count; output f;";
                if (step <= span && span <= 8 * step) {
                    Check.good(text.replace("^", ""), 3);
                } else {
                    Check.fault(7, text);
                }
            }
        }
        Check.good(A + "f = fold a by k span 999 step 999 : n = count; output f;", 3);
        Check.fault(7, A + "f = fold a by k span 999 step ^1000 : n = count; output f;");
        Check.good(A + "f = fold a by k span 1000 step 125 : n = count; output f;", 3);
        Check.fault(7, A + "f = fold a by k span 1000 step ^124 : n = count; output f;");
    }

    /** "the first n not above the second one, 0 .. 1000 each, a - before one is below 0" */
    private static void theTwoOfWithin() {
        int[] some = {-1000, -999, -2, -1, 0, 1, 2, 999, 1000};
        for (int first : some) {
            for (int second : some) {
                String text = AB + "j = join a b by k l within " + signed(first, false) + " " + signed(second, true) + "; output j;";
                if (first <= second) {
                    Check.good(text.replace("^", ""), 4);
                } else {
                    Check.fault(7, text);
                }
            }
        }
        Check.good(AB + "j = join a b by k l within -0 0; output j;", 4);
        Check.good(AB + "j = join a b by k l within 0 - 0; output j;", 4);
        Check.fault(7, AB + "j = join a b by k l within ^1001 1000; output j;");
        Check.fault(7, AB + "j = join a b by k l within - ^1001 1000; output j;");
        Check.fault(7, AB + "j = join a b by k l within 0 ^1001; output j;");
        Check.fault(7, AB + "j = join a b by k l within - 1000 - ^1001; output j;");
        Check.fault(4, AB + "j = join a b by k l within - ^- 1 1; output j;");
        Check.fault(4, AB + "j = join a b by k l within ^+ 1 1; output j;");
        Check.fault(4, AB + "j = join a b by k l within 1^; output j;");
        Check.fault(4, AB + "j = join a b by k l within 1 2 ^3; output j;");
    }

    private static String signed(int n, boolean marked) {
        return (n < 0 ? "- " : "") + (marked ? "^" : "") + Math.abs(n);
    }

    /** "n 0 .. 3, of each source once"; "a source's number that was there" */
    private static void sourcesOnce() {
        String all = "a = source 3 (k) lag 0; b = source 1 (k) lag 0; c = source 0 (k) lag 0; d = source 2 (k) lag 0; ";
        Check.good(all + "output a;", 5);
        for (int n = 0; n <= 3; n++) {
            Check.fault(7, all + "e = source ^" + n + " (k) lag 0; output a;");
        }
        Check.fault(7, "a = source 3 (k) lag 0; output a; b = source ^3 (k) lag 0;");
        House x = Check.house(all + "output a;");
        Check.feed(x, all + "output b;");
        Check.same("a new text has its sources anew", x.job(), 5);
    }

    /** "A JOB is 1 to 16 STATEMENTS"; "9 a 17th statement (at its first token)" */
    private static void howManyStatements() {
        StringBuilder many = new StringBuilder(A);
        for (int n = 2; n <= 15; n++) {
            Check.good(many + "output a;", n);
            many.append((char) ('a' + n - 1)).append(" = filter a : 1; ");
        }
        Check.good(many + "output a;", 16);
        Check.fault(9, many + "output a; ^output a;");
        Check.fault(9, many + "output a; ^z = filter a : 1;");
        Check.fault(9, many + "z = filter a : 1; ^output a;");
        Check.fault(9, many + "z = filter a : 1; ^y = filter a : 1; output a;");
        // of one token a 17th statement is the last fault
        Check.fault(1, many + "output a; ^.");
        Check.fault(2, many + "output a; ^1234567890123456789");
        Check.fault(3, many + "z = filter a : 1; ^");
        Check.fault(4, many + "output a; ^;");
        Check.fault(4, many + "output a; ^source");
        Check.fault(4, many + "output a; ^abcdefg");
        Check.fault(6, many + "output a; ^a = filter a : 1;");
        Check.fault(3, "^");
        Check.fault(3, "   ^");
        Check.fault(3, A + "^");
    }

    /** "output INPUT: 1 to 4 of them"; "a fifth (output: at that word)" */
    private static void howManyOutputs() {
        StringBuilder text = new StringBuilder(A);
        Check.fault(3, text + "^");
        for (int n = 1; n <= 4; n++) {
            text.append("output a; ");
            Check.good(text.toString(), 1 + n);
            Check.same("outputs", Check.house(text.toString()).told(13), n);
        }
        Check.good(text + "b = filter a : 1;", 6);
        Check.fault(8, text + "^output a;");
        Check.fault(8, text + "^output z;");
        Check.fault(8, text + "b = filter a : 1; ^output b;");
        Check.fault(8, text + "^output");
        // numbered from 0 on
        House x = Check.house(A + "output a; m = map a : x = 7; output m;");
        x.give(0, 5, 1, 2, 0, 0);
        x.start(1, 1, 1);
        Check.finish(x);
        Check.same("output 0", Check.rows(x, 0, 2), "5:1,2<0>");
        Check.same("output 1", Check.rows(x, 1, 1), "5:7<0>");
        Check.index("output 2", () -> x.visible(2));
    }

    private static void howManyColumns() {
        // source: 1 to 4 columns
        Check.fault(4, "a = source 0 (^) lag 0; output a;");
        String[] columns = {"k", "k v", "k v w", "k v w x"};
        for (int i = 0; i < columns.length; i++) {
            House x = Check.house("a = source 0 (" + columns[i] + ") lag 0; output a;");
            Check.same("columns of a source", x.operator(0, 3), i + 1);
            Check.same("columns of an output", x.operator(1, 3), i + 1);
        }
        Check.fault(8, "a = source 0 (k v w x ^y) lag 0; output a;");
        Check.fault(6, "a = source 0 (k v w x ^k) lag 0; output a;");
        Check.fault(4, "a = source 0 (k v w x ^5) lag 0; output a;");
        // map: 1 to 8 columns
        Check.fault(4, A + "m = map a : ^; output m;");
        StringBuilder map = new StringBuilder(A + "m = map a : ");
        for (int n = 1; n <= 8; n++) {
            map.append(n == 1 ? "" : ", ").append((char) ('b' + n)).append(" = ").append(n);
            Check.same("columns of a map", Check.house(map + "; output m;").operator(1, 3), n);
        }
        Check.fault(8, map + ", ^z = 1; output m;");
        Check.fault(6, map + ", ^c = 1; output m;");
        Check.fault(4, map + ", ^7 = 1; output m;");
        // AGGREGATES: 1 to 4
        for (String by : new String[] {"gap 5", "span 5 step 5"}) {
            String fold = A + "f = fold a by k " + by + " : ";
            Check.fault(4, fold + "^; output f;");
            String[] all = {"n = count", "o = sum v", "p = least v", "q = most v"};
            StringBuilder text = new StringBuilder(fold);
            for (int n = 1; n <= 4; n++) {
                text.append(n == 1 ? "" : ", ").append(all[n - 1]);
                Check.same("columns of a fold", Check.house(text + "; output f;").operator(1, 3), n + 1);
            }
            Check.fault(8, text + ", ^r = count; output f;");
            Check.fault(6, text + ", ^q = count; output f;");
            Check.fault(6, text + ", ^k = count; output f;");
            Check.fault(4, text + ", ^count = count; output f;");
        }
        // top: rank is one more
        House top = Check.house(A + EIGHT.replace(", h = 1", "") + "t = top 1 h by a span 1; output t;");
        Check.same("columns of a top", top.operator(2, 3), 8);
        Check.same("rank", top.operator(2, 11), 0x72616e6bL);
        Check.fault(8, A + EIGHT + "t = top 1 ^h by a span 1; output t;");
    }

    /** "2 to 4 VALUES"; "a fifth (VALUE of match: at its then)" */
    private static void howManyValuesOfMatch() {
        String match = A + "m = match a by k : ";
        Check.fault(4, match + "^then 1 within 5; output m;");
        Check.fault(4, match + "1 ^within 5; output m;");
        Check.good(match + "1 then 1 within 5; output m;", 3);
        Check.good(match + "1 then 1 then 1 within 5; output m;", 3);
        Check.good(match + "1 then 1 then 1 then 1 within 5; output m;", 3);
        Check.fault(8, match + "1 then 1 then 1 then 1 ^then 1 within 5; output m;");
        Check.fault(8, match + "1 then 1 then 1 then 1 ^then");
        Check.fault(4, match + "1 then 1 ^; output m;");
        Check.fault(4, match + "1 then 1 then ^within 5; output m;");
    }

    /** "columns of the first input, then of the second one"; "a ninth column (join, look: at the second input)" */
    private static void columnsOfTwo() {
        String[] kinds = {"join", "look"};
        for (String kind : kinds) {
            String end = kind.equals("join") ? " within 0 0; output j;" : "; output j;";
            String four = "p = source 0 (k l m n) lag 0; q = source 1 (o p q r) lag 0; ";
            House x = Check.house(four + "j = " + kind + " p q by n o" + end);
            Check.same("columns of a " + kind, x.operator(2, 3), 8);
            for (int c = 0; c < 8; c++) {
                Check.same("column " + c, x.operator(2, 4 + c), "klmnopqr".charAt(c));
            }
            String five = four + "r = map p : s = 1, t = 1, u = 1, v = 1, w = 1; ";
            Check.fault(8, five + "j = " + kind + " r ^q by s o" + end);
            Check.fault(8, five + "j = " + kind + " q ^r by o s" + end);
            Check.fault(8, A + EIGHT + "z = source 1 (z) lag 0; j = " + kind + " h ^z by a z" + end);
            Check.fault(8, A + EIGHT + "z = source 1 (z) lag 0; j = " + kind + " z ^h by z a" + end);
            // the same NAME is looked at before the ninth column
            Check.fault(6, A + EIGHT + "z = source 1 (h) lag 0; j = " + kind + " h ^z by a h" + end);
            Check.fault(6, A + "j = " + kind + " a ^a by k k" + end);
            Check.fault(6, A + "b = source 1 (l v) lag 0; j = " + kind + " a ^b by k l" + end);
            Check.fault(6, A + "b = source 1 (k l) lag 0; j = " + kind + " b ^a by l v" + end);
            Check.good(A + "b = source 1 (l) lag 0; j = " + kind + " a b by k l" + end, 4);
        }
    }

    /** "both have the same columns, by names and order" */
    private static void sameColumns() {
        Check.good(A + "b = source 1 (k v) lag 0; u = union a b; output u;", 4);
        Check.good(A + "u = union a a; output u;", 3);
        Check.good(A + EIGHT + "u = union h h; output u;", 4);
        for (String other : new String[] {"v k", "k", "v", "k w", "w v", "k v w", "w k v"}) {
            Check.fault(8, A + "b = source 1 (" + other + ") lag 0; u = union a ^b; output u;");
            Check.fault(8, A + "b = source 1 (" + other + ") lag 0; u = union b ^a; output u;");
        }
        Check.fault(8, A + EIGHT + "g = map h : a = 1, b = 1, c = 1, d = 1, e = 1, f = 1, g = 1, i = 1; u = union h ^g; output u;");
    }

    /** "5 a NAME that no statement before .. has" */
    private static void unknownInputs() {
        String[] ends = {"filter ^z : 1", "map ^z : x = 1", "union ^z a", "union a ^z", "fold ^z by k gap 1 : n = count",
            "join ^z b by k l within 0 0", "join a ^z by k l within 0 0", "look ^z b by k l", "look a ^z by k l",
            "match ^z by k : 1 then 1 within 0", "unique ^z by k within 1", "top 1 ^z by k span 1"};
        for (String end : ends) {
            Check.fault(5, AB + "c = " + end + "; output a;");
            // its own NAME, one of a statement behind it, and a column are none
            Check.fault(5, AB + "z = " + end + "; output a;");
            Check.fault(5, AB + "c = " + end + "; z = filter a : 1; output a;");
            Check.fault(5, AB + "c = " + end.replace("^z", "^k") + "; output a;");
        }
        Check.fault(5, AB + "output ^z;");
        Check.fault(5, "output ^a;");
    }

    /** "5 a NAME that .. no column of its input has" */
    private static void unknownColumns() {
        String[] ends = {"filter a : ^z", "filter a : k + ^z", "map a : x = ^z", "map a : z = 1, y = ^z", "fold a by ^z gap 1 : n = count",
            "fold a by k gap 1 : z = sum ^z", "fold a by k gap 1 : z = count, m = most ^z", "join a b by ^z l within 0 0",
            "join a b by k ^z within 0 0", "look a b by ^z l", "look a b by k ^z", "match a by ^z : 1 then 1 within 0",
            "match a by k : ^z then 1 within 0", "match a by k : 1 then ^z within 0", "unique a by ^z within 1", "top 1 a by ^z span 1"};
        for (String end : ends) {
            Check.fault(5, AB + "c = " + end + "; output a;");
            Check.fault(5, AB + "c = " + end.replace("^z", "^a") + "; output a;");
        }
        // of a pair each has its own input's
        Check.fault(5, AB + "j = join a b by ^l l within 0 0; output j;");
        Check.fault(5, AB + "j = join a b by k ^k within 0 0; output j;");
        Check.fault(5, AB + "j = look a b by ^l l; output j;");
        Check.fault(5, AB + "j = look a b by k ^k; output j;");
        // columns that the operator makes are none of its input
        Check.fault(5, A + "t = top 1 a by ^rank span 1; output t;");
        Check.fault(5, A + "m = match a by k : ^from then 1 within 0; output m;");
        Check.fault(5, A + "m = match a by ^to : 1 then 1 within 0; output m;");
        Check.fault(5, A + "m = map a : x = k; f = filter m : ^k; output f;");
        Check.fault(5, A + "f = fold a by k gap 1 : n = count; g = filter f : ^v; output g;");
        Check.good(A + "f = fold a by k gap 1 : n = count; g = filter f : k + n; output g;", 4);
        Check.good(A + "m = match a by v : 1 then 1 within 0; g = filter m : v + from + to; output g;", 4);
        Check.good(A + "t = top 1 a by v span 5; g = filter t : k + v + rank; output g;", 4);
        Check.good(AB + "j = look a b by k l; g = filter j : k + v + l + w; output g;", 5);
    }

    /** "6 a NAME that a statement before, or a column of the operator, has already" */
    private static void namesAgain() {
        Check.fault(6, A + "^a = source 1 (k) lag 0; output a;");
        Check.fault(6, AB + "^a = filter b : 1; output a;");
        Check.fault(6, AB + "output a; ^b = filter b : 1;");
        Check.good(A + "k = filter a : 1; v = filter k : v; output v;", 4);
        Check.fault(6, "a = source 0 (k ^k) lag 0; output a;");
        Check.fault(6, "a = source 0 (k l m ^l) lag 0; output a;");
        Check.fault(6, A + "m = map a : x = 1, ^x = 2; output m;");
        Check.good(A + "m = map a : v = k, k = v; output m;", 3);
        Check.fault(6, A + "f = fold a by k gap 1 : n = count, ^n = count; output f;");
        Check.fault(6, A + "f = fold a by k gap 1 : ^k = count; output f;");
        Check.good(A + "f = fold a by k gap 1 : v = sum v, a = count; output f;", 3);
        // top: rank, at its input; match: from and to, at its by's NAME
        Check.fault(6, "a = source 0 (k rank) lag 0; t = top 1 ^a by k span 1; output t;");
        Check.fault(6, A + EIGHT.replace("h = 1", "rank = 1") + "t = top 1 ^h by a span 1; output t;");
        Check.fault(6, "a = source 0 (from to) lag 0; m = match a by ^from : 1 then 1 within 0; output m;");
        Check.fault(6, "a = source 0 (from to) lag 0; m = match a by ^to : 1 then 1 within 0; output m;");
        Check.good("a = source 0 (from to k) lag 0; m = match a by k : from then to within 0; output m;", 3);
        Check.good("a = source 0 (k rank) lag 0; m = match a by rank : 1 then 1 within 0; output m;", 3);
    }

    /** "4 a token that can't stand there": every token of every statement is one that is asked for. */
    private static void whatCannotStand() {
        String[] statements = {"c = source 2 ( x y ) lag 3 ;", "c = filter a : k ;", "c = map a : x = k , y = v ;", "c = union a a ;",
            "c = fold a by k span 4 step 2 : n = count , m = sum v ;", "c = fold a by k gap 4 : n = least v , m = most v ;",
            "c = join a b by k l within 1 2 ;", "c = look a b by k l ;", "c = match a by k : k then v within 3 ;",
            "c = unique a by k within 3 ;", "c = top 3 a by k span 4 ;", "output a ;"};
        for (String statement : statements) {
            Check.good(AB + "output a; " + statement, 4);
            String[] tokens = statement.split(" ");
            for (int i = 0; i < tokens.length; i++) {
                // a KEYWORD that stands in a source alone, a long word, and a ) but behind a source's column
                for (String wrong : new String[] {")", "lag", "abcdefg"}) {
                    if (!tokens[i].equals(wrong) && !(tokens[i].equals("y") && tokens[1 + i].equals(wrong))) {
                        Check.fault(4, AB + "output a; " + joined(tokens, i, wrong));
                    }
                }
                boolean number = Character.isDigit(tokens[i].charAt(0));
                boolean name = !number && Character.isLetter(tokens[i].charAt(0));
                if (!number && !tokens[i].equals("k") && !tokens[i].equals("v")) {
                    Check.fault(4, AB + "output a; " + joined(tokens, i, "1"));
                }
                if (!name && !tokens[i].equals(")") && !(i > 0 && tokens[i - 1].equals("by"))) {
                    Check.fault(4, AB + "output a; " + joined(tokens, i, "zz"));
                }
            }
        }
    }

    private static String joined(String[] tokens, int wrong, String instead) {
        StringBuilder text = new StringBuilder();
        for (int i = 0; i <= wrong; i++) {
            text.append(i == wrong ? "^" + instead : tokens[i]).append(' ');
        }
        return text.toString();
    }

    /** "(Of one token in this order.)" */
    private static void firstOfSeveral() {
        Check.fault(2, A + "b = top ^9999999999999999999 a by k span 1; output b;");
        Check.fault(5, A + "b = union a ^z; output b;");
        Check.fault(5, A + EIGHT + "b = top 1 ^z by k span 1; output b;");
        Check.fault(7, "a = source ^9 (k) lag 0; output a;");
        Check.fault(7, A + "b = fold a by k span 9 step ^2000 : n = count; output b;");
        Check.fault(5, A + "m = match a by ^from : 1 then 1 within 0; output m;");
        Check.fault(4, A + "b = filter a : ((((((((((^)");
        Check.fault(5, A + "b = filter a : ((((((((((^z");
        Check.fault(9, A + "b = filter a : ((((((((((^(");
    }

    /** "tokens are looked at one by one, each when the one before was found to stand where it may" */
    private static void onlyTheFirstFault() {
        Check.fault(4, "a = ^( $ 1234567890123456789");
        Check.fault(7, "a = source ^4 $");
        Check.fault(1, "a = source 3 ^$ ( k k ) lag 1001");
        Check.fault(6, "a = source 3 (k ^k k2 $");
        Check.fault(7, "a = source 3 (k) lag ^1001 $");
        Check.fault(5, A + "b = union ^z a $");
        Check.fault(8, A + EIGHT + "b = union a ^h $");
        Check.fault(1, A + "b = union a a ^$ ;");
        Check.fault(8, A + EIGHT + "b = top 1 ^h $");
        Check.fault(7, A + "b = fold a by k span 5 step ^6 $");
        Check.fault(4, A + "b = filter a : k < v ^< $");
        Check.fault(1, A + "output a; ^$");
        Check.fault(2, A + "output a ^1234567890123456789 $");
    }

    /** "the NAME of column what - 4 (.. 0 for none)", also when a text before had more columns there. */
    private static void narrowerJobs() {
        String wide = "p = source 0 (k l m n) lag 0; q = map p : a = 1, b = 1, c = 1, d = 1, e = 1, f = 1, g = 1, h = 1; r = join p p by";
        String whole = "p = source 0 (k l m n) lag 0; q = map p : a = 1, b = 1, c = 1, d = 1, e = 1, f = 1, g = 1, h = 1; output q;";
        House x = new House();
        for (String text : new String[] {whole, whole, wide, wide}) {
            Check.feed(x, text);
            x.job();
        }
        for (int i = 0; i < 2; i++) {
            Check.feed(x, "p = source 0 (z) lag 0; q = filter p : 1; output q;");
            Check.same("a narrower job", x.job(), 3);
            for (int o = 0; o < 3; o++) {
                Check.same("columns", x.operator(o, 3), 1);
                Check.same("its NAME", x.operator(o, 4), 'z');
                for (int what = 5; what <= 11; what++) {
                    Check.same("operator(" + o + ", " + what + ")", x.operator(o, what), 0);
                }
            }
        }
    }
}
