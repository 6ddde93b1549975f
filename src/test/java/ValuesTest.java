import java.util.ArrayList;
import java.util.List;

/** VALUES of part 2: what binds how, what is worked out, what is BAD, and how deep they go (promises 3, 4, 16, 19). */
public final class ValuesTest {
    private static final String HEAD = "a = source 0 (k v) lag 0; ";
    private static final long K = 7;
    private static final long V = -3;
    private static final int TIME = 20;

    public static void main(String[] args) {
        depthOfEach();
        depthEndsWithWhatItHas();
        notOneBehindTheOther();
        wrapAround();
        division();
        comparisons();
        justIfItMatters();
        pairs();
        trees();
        behindBadOnes();
        Check.end();
    }

    private static void deep(String before, String more, String after) {
        Check.good(HEAD + "b = filter a : " + before + after + "; output b;", 3);
        Check.fault(9, HEAD + "b = filter a : " + before + "^" + more);
    }

    /** "something open more than ten deep: ( - ! ? : of a VALUE" */
    private static void depthOfEach() {
        for (String more : new String[] {"(k)", "-k", "!k"}) {
            deep("(".repeat(10), more, "k" + ")".repeat(10));
            deep("-".repeat(10), more, "k");
            deep("!".repeat(10), more, "k");
            deep("-(!".repeat(3) + "(", more, "k" + ")".repeat(4));
            deep("1 ? ".repeat(10), more, "k" + " : 0".repeat(10));
            deep("1 ? 2 : ".repeat(10), more, "k");
            deep("1 ? 2 : (".repeat(4) + "-!", more, "k" + ")".repeat(4));
        }
        deep("(".repeat(10) + "1 ", "? 2 : 3", ")".repeat(10));
        deep("1 ? ".repeat(10) + "1 ", "? 2 : 3", " : 0".repeat(10));
        deep("1 ? 2 : ".repeat(10) + "1 ", "? 2 : 3", "");
        deep("1 ? 2 : (".repeat(5) + "1 ", "? 2 : 3", ")".repeat(5));
        for (int n = 0; n <= 10; n++) {
            Check.good(HEAD + "b = filter a : " + "(".repeat(n) + "k" + ")".repeat(n) + "; output b;", 3);
        }
    }

    /** "each open one till what they have ends" */
    private static void depthEndsWithWhatItHas() {
        String ten = "(".repeat(10) + "k" + ")".repeat(10);
        for (String sign : new String[] {"+", "*", "<", "|", "&"}) {
            Check.good(HEAD + "b = filter a : " + ten + sign + ten + "; output b;", 3);
            Check.good(HEAD + "b = filter a : " + "-".repeat(10) + "k" + sign + "!".repeat(10) + "k; output b;", 3);
        }
        Check.good(HEAD + "b = filter a : " + ten + " ? 1 : 2; output b;", 3);
        String nine = "(".repeat(9) + "k" + ")".repeat(9);
        Check.good(HEAD + "b = filter a : 1 ? " + nine + " : " + nine + "; output b;", 3);
        Check.fault(9, HEAD + "b = filter a : 1 ? (((((((((^(");
        Check.fault(9, HEAD + "b = filter a : 1 ? " + nine + " : (((((((((^(");
        // a ? is open till its :, which is open till its V ends
        Check.good(HEAD + "b = filter a : (1 ? 2 : 3) + " + ten + "; output b;", 3);
        Check.good(HEAD + "b = map a : x = " + ten + ", y = " + ten + "; output b;", 3);
        Check.good(HEAD + "b = match a by k : " + ten + " then " + ten + " within 1; output b;", 3);
        Check.good(HEAD + "b = fold a by k gap 1 : n = sum " + ten + ", m = most " + ten + "; output b;", 3);
        Check.fault(9, HEAD + "b = map a : x = " + ten + ", y = ((((((((((^(");
        Check.fault(9, HEAD + "b = match a by k : " + ten + " then ((((((((((^(");
        Check.fault(9, HEAD + "b = fold a by k gap 1 : n = sum " + ten + ", m = most ((((((((((^(");
    }

    /** "V < V, V > V, V = V (1 or 0; not one behind the other)" */
    private static void notOneBehindTheOther() {
        for (String first : new String[] {"<", ">", "="}) {
            for (String second : new String[] {"<", ">", "="}) {
                Check.fault(4, HEAD + "b = filter a : k " + first + " v ^" + second + " 1; output b;");
                Check.fault(4, HEAD + "b = filter a : k " + first + " v + 1 ^" + second + " 1; output b;");
                Check.good(HEAD + "b = filter a : (k " + first + " v) " + second + " 1; output b;", 3);
                Check.good(HEAD + "b = filter a : k " + first + " (v " + second + " 1); output b;", 3);
                Check.good(HEAD + "b = filter a : k " + first + " v & v " + second + " 1 | k " + first + " 2; output b;", 3);
                Check.good(HEAD + "b = filter a : k " + first + " v ? v " + second + " 1 : k " + first + " 2; output b;", 3);
            }
        }
        for (String wrong : new String[] {"k ^!v", "k ^(v)", "k ^2", "k ^time", "k + ^* 2", "k ? 1 ^;", "k ? 1 : ^;", "k ? ^: 1", "^? 1 : 2",
            "(^)", "(k^;", "k^) + 1", "1 ^: 2", "^+ k", "k - ^/ 2", "k ? 1 : 2 ^: 3", "(k ? 1^) : 2"}) {
            Check.fault(4, HEAD + "b = filter a : " + wrong + "; output b;");
        }
    }

    /** VALUES of the row k = 7, v = -3 at time 20; null for one that is BAD. */
    private static void values(List<String> texts, List<Long> due) {
        StringBuilder map = new StringBuilder(HEAD + "b = map a : ");
        for (int i = 0; i < texts.size(); i++) {
            map.append(i == 0 ? "" : ", ").append((char) ('p' + i)).append(" = ").append(texts.get(i));
        }
        House x = Check.house(map + "; output b;");
        x.give(0, TIME, K, V, 0, 0);
        x.start(1, 8, 1);
        Check.finish(x);
        boolean bad = due.stream().anyMatch(d -> d == null);
        Check.same("rows of " + texts, x.visible(0), bad ? 0 : 1);
        Check.same("aside of " + texts, x.task(1, 6), bad ? 1 : 0);
        for (int i = 0; i < texts.size() && !bad; i++) {
            Check.same(texts.get(i), x.row(0, 0, i), due.get(i));
        }
    }

    private static void value(String text, Long due) {
        List<Long> one = new ArrayList<>();
        one.add(due);
        values(List.of(text), one);
    }

    private static final String MOST = "(9223372036854775*1000+807)";
    private static final String LEAST = "(-9223372036854775*1000-808)";

    /** "NUMBERS (64 bits, running over)" */
    private static void wrapAround() {
        value(MOST, Long.MAX_VALUE);
        value(LEAST, Long.MIN_VALUE);
        value(MOST + "+1", Long.MIN_VALUE);
        value(LEAST + "-1", Long.MAX_VALUE);
        value("-" + LEAST, Long.MIN_VALUE);
        value("-" + MOST, -Long.MAX_VALUE);
        value(MOST + "*2", -2L);
        value(LEAST + "*-1", Long.MIN_VALUE);
        value(LEAST + "*" + LEAST, 0L);
        value("999999999999999999*999999999999999999", 999999999999999999L * 999999999999999999L);
        value("time + " + MOST, Long.MIN_VALUE + TIME - 1);
    }

    /** "V / V (toward 0), V % V (what that leaves, with the sign of the first one)"; "BAD if anything .. divides by 0" */
    private static void division() {
        long[] some = {-8, -7, -6, -2, -1, 1, 2, 6, 7, 8};
        for (long a : some) {
            for (long b : some) {
                value("(" + a + ") / (" + b + ")", a / b);
                value("(" + a + ") % (" + b + ")", a % b);
            }
            value("(" + a + ") / 0", null);
            value("(" + a + ") % 0", null);
            value("0 / (" + a + ")", 0L);
            value("0 % (" + a + ")", 0L);
        }
        value("0 / 0", null);
        value("0 % 0", null);
        value("1 / (k - 7)", null);
        value("1 / (k - 6)", 1L);
        value("1 / (k - 8)", -1L);
        value("0 * (1 / 0)", null);
        value("(1 / 0) * 0", null);
        value("!(1 / 0)", null);
        value("-(1 % 0)", null);
        value("1 / 0 < 2", null);
        value("2 = 1 % 0", null);
        value(LEAST + " / -1", Long.MIN_VALUE);
        value(LEAST + " % -1", 0L);
        value(LEAST + " / 1", Long.MIN_VALUE);
        value(LEAST + " / " + LEAST, 1L);
        value(MOST + " / " + LEAST, 0L);
        value(MOST + " % " + LEAST, Long.MAX_VALUE);
        value(LEAST + " % " + MOST, -1L);
    }

    private static void comparisons() {
        String[] names = {"k", "v", "time", MOST, LEAST, "0", "1"};
        long[] numbers = {K, V, TIME, Long.MAX_VALUE, Long.MIN_VALUE, 0, 1};
        for (int i = 0; i < names.length; i++) {
            for (int j = 0; j < names.length; j++) {
                values(List.of(names[i] + "<" + names[j], names[i] + ">" + names[j], names[i] + "=" + names[j]),
                    List.of(numbers[i] < numbers[j] ? 1L : 0L, numbers[i] > numbers[j] ? 1L : 0L, numbers[i] == numbers[j] ? 1L : 0L));
            }
            value("!" + names[i], numbers[i] == 0 ? 1L : 0L);
            value("!!" + names[i], numbers[i] == 0 ? 0L : 1L);
            value(names[i] + " ? 5 : 6", numbers[i] == 0 ? 6L : 5L);
        }
    }

    /** "the second one is worked out just if it matters"; "Of V ? V : V just the one is worked out that it is." */
    private static void justIfItMatters() {
        String bad = "1 / 0";
        for (String yes : new String[] {"1", "2", "-1", "k", LEAST}) {
            value(yes + " | " + bad, 1L);
            value(yes + " & " + bad, null);
            value(yes + " | 0", 1L);
            value(yes + " & 0", 0L);
            value("0 | " + yes, 1L);
            value("0 & " + yes, 0L);
            value("3 & " + yes, 1L);
            value("3 | " + yes, 1L);
            value(yes + " ? 4 : " + bad, 4L);
            value(yes + " ? " + bad + " : 4", null);
            value(yes + " | " + bad + " | " + bad, 1L);
        }
        value("0 | " + bad, null);
        value("0 & " + bad, 0L);
        value("0 & " + bad + " & " + bad, 0L);
        value("0 | 0", 0L);
        value("0 & 0", 0L);
        value("0 ? 4 : " + bad, null);
        value("0 ? " + bad + " : 4", 4L);
        value(bad + " ? 4 : 4", null);
        value(bad + " | 1", null);
        value(bad + " & 0", null);
        value("1 ? 2 : 1 ? " + bad + " : " + bad, 2L);
        value("0 ? " + bad + " : 1 ? 3 : " + bad, 3L);
        value("1 ? 1 ? 2 : " + bad + " : " + bad, 2L);
    }

    /** Of two operators behind each other: from the left, if they bind alike, else by what binds more. */
    private static void pairs() {
        String[][] levels = {{"|", "&"}, {"<", ">", "="}, {"+", "-"}, {"*", "/", "%"}};
        int[][] numbers = {{9, 4, 2}, {2, 9, 4}, {0, 3, 0}, {1, 0, 0}, {5, 5, 1}, {8, 3, 5}, {0, 1, 1}, {2, 1, 0}};
        for (int i = 0; i < levels.length; i++) {
            for (int j = 0; j < levels.length; j++) {
                for (String first : levels[i]) {
                    for (String second : levels[j]) {
                        if (i == 1 && j == 1) {
                            continue;
                        }
                        for (int[] n : numbers) {
                            Long due = i >= j ? apply(second, apply(first, (long) n[0], n[1]), n[2]) : firstOfRest(first, second, n);
                            value(n[0] + first + n[1] + second + n[2], due);
                        }
                    }
                }
            }
        }
    }

    private static Long firstOfRest(String first, String second, int[] n) {
        boolean settled = first.equals("|") && n[0] != 0 || first.equals("&") && n[0] == 0;
        if (settled) {
            return first.equals("|") ? 1L : 0L;
        }
        Long rest = apply(second, (long) n[1], n[2]);
        return rest == null ? null : apply(first, (long) n[0], rest);
    }

    private static Long apply(String sign, Long a, long b) {
        if (a == null || (sign.equals("/") || sign.equals("%")) && b == 0) {
            return null;
        }
        switch (sign) {
            case "|": return a != 0 || b != 0 ? 1L : 0L;
            case "&": return a != 0 && b != 0 ? 1L : 0L;
            case "<": return a < b ? 1L : 0L;
            case ">": return a > b ? 1L : 0L;
            case "=": return a == b ? 1L : 0L;
            case "+": return a + b;
            case "-": return a - b;
            case "*": return a * b;
            case "/": return a / b;
            default: return a % b;
        }
    }

    private static long state = 20261116;

    private static int choose(int n) {
        state = state * 6364136223846793005L + 1442695040888963407L;
        return (int) ((state >>> 33) % n);
    }

    /** A VALUE as a tree, written with the fewest parentheses that its binding needs. */
    private static final class Tree {
        final String sign;
        final int level;
        final Tree[] of;
        final long number;

        Tree(String sign, int level, long number, Tree... of) {
            this.sign = sign;
            this.level = level;
            this.number = number;
            this.of = of;
        }

        String text(int least) {
            String text;
            switch (of.length) {
                case 0:
                    text = sign;
                    break;
                case 1:
                    text = sign + of[0].text(5);
                    break;
                case 2:
                    text = of[0].text(level == 2 ? 3 : level) + sign + of[1].text(level + 1);
                    break;
                default:
                    text = of[0].text(1) + " ? " + of[1].text(0) + " : " + of[2].text(0);
                    break;
            }
            return level < least ? "(" + text + ")" : text;
        }

        Long worth() {
            if (of.length == 0) {
                return number;
            }
            Long a = of[0].worth();
            if (a == null) {
                return null;
            }
            if (of.length == 1) {
                return sign.equals("-") ? -a : a == 0 ? 1L : 0L;
            }
            if (of.length == 3) {
                return (a != 0 ? of[1] : of[2]).worth();
            }
            if (sign.equals("|") && a != 0 || sign.equals("&") && a == 0) {
                return a != 0 ? 1L : 0L;
            }
            Long b = of[1].worth();
            return b == null ? null : apply(sign, a, b);
        }
    }

    private static Tree leaf() {
        switch (choose(5)) {
            case 0: return new Tree("k", 6, K);
            case 1: return new Tree("v", 6, V);
            case 2: return new Tree("time", 6, TIME);
            default:
                int n = choose(4);
                return new Tree("" + n, 6, n);
        }
    }

    private static Tree tree(int height) {
        String[] signs = {"|", "&", "<", ">", "=", "+", "-", "*", "/", "%"};
        int[] levels = {1, 1, 2, 2, 2, 3, 3, 4, 4, 4};
        int kind = height == 0 ? 13 : choose(15);
        if (kind < 10) {
            return new Tree(signs[kind], levels[kind], 0, tree(height - 1), tree(height - 1));
        }
        if (kind < 12) {
            return new Tree(kind == 10 ? "-" : "!", 5, 0, tree(height - 1));
        }
        if (kind < 13) {
            return new Tree("?", 0, 0, tree(height - 1), tree(height - 1), tree(height - 1));
        }
        return leaf();
    }

    private static void trees() {
        for (int i = 0; i < 1500; i++) {
            Tree tree = tree(1 + i % 5);
            value(tree.text(0), tree.worth());
        }
    }

    /** A VALUE that is BAD leaves nothing to the next one, wherever it was given up. */
    private static void behindBadOnes() {
        String deep = "1 = 1 + 1 * (2 = 1 + 1 * (3 = 1 + 1 * (4 = 1 + 1 * (5 = 1 + 1 / (k - 7)))))";
        House x = Check.house(HEAD + "b = map a : x = " + deep + ", y = k + v * 2; output b;");
        for (int i = 0; i < 60; i++) {
            x.give(0, TIME, 7, i, 0, 0);
        }
        x.give(0, TIME, 8, 5, 0, 0);
        x.give(0, TIME, 3, 6, 0, 0);
        x.start(1, 8, 1);
        Check.finish(x);
        Check.same("aside", x.task(1, 6), 60);
        Check.same("rows", Check.rows(x, 0, 2), "20:1,15<61> 20:1,18<60>");
    }
}
