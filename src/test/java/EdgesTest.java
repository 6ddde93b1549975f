import java.util.StringJoiner;

/** Part 4 of the document: when each operator makes its rows, and what it keeps, just before, at and behind its edges (promises 9, 15 to 21). */
public final class EdgesTest {
    public static void main(String[] args) {
        spansOfATime();
        spansEnd();
        orderOfSpans();
        gaps();
        gapsEnd();
        sessionsPutTogether();
        amounts();
        joinTimes();
        joinKeeps();
        joinOrder();
        lookTimes();
        lookOfOtherWidths();
        lookKeeps();
        matchWithin();
        matchKeeps();
        matchOrder();
        uniqueWithin();
        uniqueKeeps();
        topSpans();
        topCounts();
        topOrder();
        asideAsItComes();
        orderOfRows();
        Check.end();
    }

    /** "spans go from k step to k step + span - 1, k any whole number (also below 0)" */
    private static void spansOfATime() {
        int[][] kinds = {{1, 1}, {5, 5}, {2, 1}, {8, 1}, {16, 2}, {5, 2}, {7, 3}, {24, 3}, {9, 8}, {1000, 125}, {1000, 1000}};
        for (int[] kind : kinds) {
            for (int time : new int[] {0, 1, kind[1] - 1, kind[1], kind[0] - 1, kind[0], kind[0] + 1, 2 * kind[0]}) {
                StringJoiner due = new StringJoiner(" ");
                int records = 0;
                for (int k = -2000; k <= 4000; k++) {
                    int last = k * kind[1] + kind[0] - 1;
                    if (k * kind[1] <= time && time <= last) {
                        due.add(last + ":7,1<0>");
                        records++;
                    }
                }
                Probe p = new Probe("fold c by k span " + kind[0] + " step " + kind[1] + " : n = count");
                p.first(time, 7, 1).has(records, 0).ends(2, due.toString());
            }
        }
    }

    /** "When W is the last time of a span or more" */
    private static void spansEnd() {
        new Probe("fold c by k span 4 step 2 : n = count").first(5, 1, 1).has(2, 0).at(4).has(2, 0).at(5).has(1, 1).at(6).has(1, 1).at(7).has(0, 2)
            .ends(2, "5:1,1<0> 7:1,1<0>");
        new Probe("fold c by k span 4 step 4 : n = count").first(4, 1, 1).first(7, 1, 1).first(8, 1, 1).has(2, 0).at(6).has(2, 0).at(7).has(1, 1)
            .at(10).has(1, 1).at(11).has(0, 2).ends(2, "7:1,2<0,1> 11:1,1<2>");
        new Probe("fold c by k span 1 step 1 : n = count").first(4, 1, 1).has(1, 0).at(3).has(1, 0).at(4).has(0, 1).ends(2, "4:1,1<0>");
        new Probe("fold c by k span 1000 step 1000 : n = count").first(0, 1, 1).first(999, 1, 1).first(1000, 1, 1).has(2, 0).at(998).has(2, 0)
            .at(999).has(1, 1).at(1998).has(1, 1).at(1999).has(0, 2).ends(2, "999:1,2<0,1> 1999:1,1<2>");
        // a span's row comes while later rows of the span could not come any more
        new Probe("fold c by k span 4 step 4 : n = count").first(4, 1, 1).at(6).first(7, 1, 1).has(1, 0).at(7).has(0, 1).first(8, 1, 1).has(1, 1)
            .ends(2, "7:1,2<0,2> 11:1,1<4>");
        // each KEY has its own
        new Probe("fold c by k span 3 step 3 : n = count").first(1, 1, 1).first(1, 2, 1).first(2, 1, 1).has(2, 0).at(2).has(0, 2).ends(2, "2:1,2<0,2> 2:2,1<1>");
    }

    /** "by the spans' ends, then by KEYS": of equal rows those that came first are visible first */
    private static void orderOfSpans() {
        String map = "m = map o : z = 1; output m;";
        new Probe("fold c by k span 5 step 5 : n = count", map).first(1, 5, 1).first(2, -3, 1).first(3, Long.MIN_VALUE, 1).first(4, 0, 1)
            .first(0, Long.MAX_VALUE, 1).ends(1, "4:1<2> 4:1<1> 4:1<3> 4:1<0> 4:1<4>");
        new Probe("fold c by k gap 5 : n = count", map).first(3, 5, 1).first(3, -3, 1).first(3, Long.MIN_VALUE, 1).first(3, 0, 1)
            .first(3, Long.MAX_VALUE, 1).ends(1, "7:1<2> 7:1<1> 7:1<3> 7:1<0> 7:1<4>");
    }

    /** "that begin less than gap behind it and end less than gap before it" */
    private static void gaps() {
        for (int gap : new int[] {1, 2, 3, 10, 1000}) {
            for (int distance = gap - 1; distance <= gap + 1; distance++) {
                int first = 20;
                int second = 20 + distance;
                String apart = (first + gap - 1) + ":1,1<%d> " + (second + gap - 1) + ":1,1<%d>";
                boolean near = distance < gap;
                String one = (second + gap - 1) + ":1,2<0,1>";
                String fold = "fold c by k gap " + gap + " : n = count";
                new Probe(fold).first(first, 1, 1).has(1, 0).first(second, 1, 1).has(near ? 1 : 2, 0).ends(2, near ? one : String.format(apart, 0, 1));
                if (distance <= 100) {
                    new Probe(fold).first(second, 1, 1).has(1, 0).first(first, 1, 1).has(near ? 1 : 2, 0).ends(2, near ? one : String.format(apart, 1, 0));
                }
            }
        }
        // another KEY is not near
        new Probe("fold c by k gap 5 : n = count").first(5, 1, 1).first(5, 2, 1).has(2, 0).ends(2, "9:1,1<0> 9:2,1<1>");
        // near to its beginning, within it, near to its end
        for (int time = 7; time <= 23; time++) {
            boolean near = time > 7 && time < 23;
            Probe p = new Probe("fold c by k gap 3 : n = count").first(10, 1, 1).first(12, 1, 1).first(14, 1, 1).first(16, 1, 1).first(18, 1, 1).first(20, 1, 1);
            p.has(1, 0).first(time, 1, 1).has(near ? 1 : 2, 0);
        }
    }

    /** "When W is the last time and gap - 1, or more: .. its row, with this time" */
    private static void gapsEnd() {
        new Probe("fold c by k gap 3 : n = count").first(5, 1, 1).at(6).has(1, 0).at(7).has(0, 1).ends(2, "7:1,1<0>");
        new Probe("fold c by k gap 1 : n = count").first(5, 1, 1).at(4).has(1, 0).at(5).has(0, 1).ends(2, "5:1,1<0>");
        new Probe("fold c by k gap 1000 : n = count").first(5, 1, 1).at(1003).has(1, 0).at(1004).has(0, 1).ends(2, "1004:1,1<0>");
        // it goes on as long as it is not over
        new Probe("fold c by k gap 3 : n = count").first(5, 1, 1).at(6).first(7, 1, 1).has(1, 0).at(7).has(1, 0).at(8).has(1, 0).at(9).has(0, 1)
            .ends(2, "9:1,2<0,2>");
        new Probe("fold c by k gap 3 : n = count").first(5, 1, 1).at(7).has(0, 1).first(8, 1, 1).has(1, 1).ends(2, "7:1,1<0> 10:1,1<2>");
    }

    /** "with all of that KEY that .. are so near, it is one: from the first time to the last one" */
    private static void sessionsPutTogether() {
        new Probe("fold c by k gap 3 : n = count, s = sum v, x = least v, y = most v").first(10, 1, 5).first(14, 1, 9).has(2, 0).first(12, 1, 7).has(1, 0)
            .ends(5, "16:1,3,21,5,9<0,1,2>");
        new Probe("fold c by k gap 3 : n = count").first(10, 1, 1).first(14, 1, 1).first(11, 1, 1).has(2, 0).ends(2, "13:1,2<0,2> 16:1,1<1>");
        new Probe("fold c by k gap 3 : n = count").first(10, 1, 1).first(15, 1, 1).first(12, 1, 1).has(2, 0).first(13, 1, 1).has(1, 0).ends(2, "17:1,4<0,1,2,3>");
        // what is near to the row is put together with it, not what is near to that
        new Probe("fold c by k gap 2 : n = count").first(10, 1, 1).first(13, 1, 1).first(16, 1, 1).has(3, 0).first(12, 1, 1).has(3, 0).first(14, 1, 1).has(3, 0)
            .first(11, 1, 1).has(2, 0).first(15, 1, 1).has(1, 0).ends(2, "17:1,7<0,1,2,3,4,5,6>");
    }

    /** "Count tells how many rows, others the sum, the least and the greatest of what the VALUE was for them." */
    private static void amounts() {
        long big = Long.MAX_VALUE;
        for (String by : new String[] {"span 50 step 50", "gap 50"}) {
            String fold = "fold c by k " + by + " : n = count, s = sum v, x = least v, y = most v";
            int last = by.startsWith("gap") ? 61 : 49;
            new Probe(fold).first(10, 1, big).ends(5, (by.startsWith("gap") ? 59 : 49) + ":1,1," + big + "," + big + "," + big + "<0>");
            new Probe(fold).first(10, 1, big).first(11, 1, 1).first(12, 1, Long.MIN_VALUE)
                .ends(5, last + ":1,3,0," + Long.MIN_VALUE + "," + big + "<0,1,2>");
            new Probe(fold).first(10, 1, big).first(12, 1, big).ends(5, last + ":1,2,-2," + big + "," + big + "<0,1>");
            new Probe(fold).first(12, 1, -5).first(11, 1, -7).first(10, 1, -6).ends(5, last + ":1,3,-18,-7,-5<0,1,2>");
        }
        new Probe("fold c by v span 9 step 9 : x = most k, y = sum time, z = least k * 2, u = sum 1").first(3, 4, 1).first(5, 6, 1)
            .ends(5, "8:1,6,8,8,2<0,1>");
    }

    /** "the second one's time is the first one's and a number from the first to the second one of within: a row with the later one's time" */
    private static void joinTimes() {
        int[][] within = {{0, 0}, {-2, 3}, {1, 2}, {-3, -1}, {-1000, -1000}, {1000, 1000}, {0, 1}, {-1, 0}};
        for (int[] w : within) {
            for (int behind : new int[] {w[0] - 1, w[0], w[1], w[1] + 1}) {
                // the first one at 1050 or 50, so that both come in whichever order
                int first = behind < 0 ? 1050 : 50;
                int second = first + behind;
                boolean joined = behind >= w[0] && behind <= w[1];
                String join = "join c d by k l within " + signed(w[0]) + " " + signed(w[1]);
                String due = joined ? Math.max(first, second) + ":1,5,1,6<0,64>" : "";
                new Probe(join).first(first, 1, 5).has(1, 0).second(second, 1, 6).has(2, joined ? 1 : 0).ends(4, due);
                new Probe(join).second(second, 1, 6).has(1, 0).first(first, 1, 5).has(2, joined ? 1 : 0).ends(4, due);
                new Probe(join).first(first, 2, 5).second(second, 1, 6).has(2, 0).ends(4, "");
            }
        }
    }

    private static String signed(int n) {
        return n < 0 ? "- " + -n : "" + n;
    }

    /** "rows go for which it is the last time that could join them, or more (a first one: its time and the second number; a second one: its time less the first number)" */
    private static void joinKeeps() {
        new Probe("join c d by k l within - 2 3").first(50, 1, 1).at(52).has(1, 0).at(53).has(0, 0);
        new Probe("join c d by k l within - 2 3").second(50, 1, 1).at(51).has(1, 0).at(52).has(0, 0);
        new Probe("join c d by k l within 0 0").first(50, 1, 1).second(51, 1, 1).at(49).has(2, 0).at(50).has(1, 0).at(51).has(0, 0);
        new Probe("join c d by k l within 4 9").second(50, 1, 1).at(45).has(1, 0).at(46).has(0, 0);
        new Probe("join c d by k l within 4 9").first(50, 1, 1).at(58).has(1, 0).at(59).has(0, 0);
        new Probe("join c d by k l within - 9 - 4").first(50, 1, 1).at(45).has(1, 0).at(46).has(0, 0);
        new Probe("join c d by k l within - 9 - 4").second(50, 1, 1).at(58).has(1, 0).at(59).has(0, 0);
        new Probe("join c d by k l within - 1000 1000").first(50, 1, 1).second(50, 1, 1).has(2, 1).at(1049).has(2, 1).at(1050).has(0, 1);
        // a row that could be joined no more as it comes is kept till W grows
        new Probe("join c d by k l within - 9 - 4").at(48).first(50, 1, 1).has(1, 0).at(49).has(0, 0);
        // rows go from wherever they are
        new Probe("join c d by k l within 0 0").first(53, 1, 1).first(50, 1, 1).first(54, 1, 1).first(51, 1, 1).at(51).has(2, 0).at(53).has(1, 0)
            .second(54, 1, 2).has(2, 1).ends(4, "54:1,1,1,2<2,66>");
        // just before it goes a row is still joined
        new Probe("join c d by k l within - 2 3").first(50, 1, 1).at(52).second(53, 1, 2).has(2, 1);
        new Probe("join c d by k l within - 2 3").second(50, 1, 1).at(51).first(52, 1, 2).has(2, 1);
    }

    /** "by the order in which those of the other side came" */
    private static void joinOrder() {
        String map = "m = map o : z = 1; output m;";
        new Probe("join c d by k l within - 9 9", map).first(53, 1, 9).first(51, 1, 7).first(55, 1, 8).first(51, 1, 5).second(56, 1, 3)
            .ends(1, "56:1<0,64> 56:1<1,64> 56:1<2,64> 56:1<3,64>");
        new Probe("join c d by k l within - 9 9", map).second(53, 1, 9).second(51, 1, 7).second(55, 1, 8).second(51, 1, 5).first(56, 1, 3)
            .ends(1, "56:1<0,64> 56:1<0,65> 56:1<0,66> 56:1<0,67>");
    }

    /** "rows of the first input wait till W is their time or more; then ..: of the rows of the second one with the same KEY, with no greater time, the greatest" */
    private static void lookTimes() {
        String look = "look c d by k l";
        new Probe(look).first(50, 1, 1).second(50, 1, 2).at(49).has(2, 0).at(50).has(1, 1).ends(4, "50:1,1,1,2<0,64>");
        new Probe(look).first(50, 1, 1).second(51, 1, 2).at(50).has(1, 0).ends(4, "");
        new Probe(look).first(50, 1, 1).second(49, 1, 2).at(50).has(1, 1).ends(4, "50:1,1,1,2<0,64>");
        new Probe(look).first(50, 1, 1).second(0, 1, 2).ends(4, "50:1,1,1,2<0,64>");
        new Probe(look).first(50, 2, 1).second(50, 1, 2).ends(4, "");
        new Probe(look).first(50, 1, 1).ends(4, "");
        new Probe(look).first(50, 1, 1).second(48, 1, 9).second(49, 1, -9).second(51, 1, 5).second(49, 1, -8).second(49, 1, -10).ends(4, "50:1,1,1,-8<0,67>");
        // of equal ones that which came first, at once and later
        new Probe(look).first(50, 1, 1).second(49, 1, 2).second(49, 1, 2).ends(4, "50:1,1,1,2<0,64>");
        new Probe(look).second(49, 1, 2).second(49, 1, 2).at(49).has(1, 0).first(50, 1, 1).ends(4, "50:1,1,1,2<1,64>");
        // a row of the second input that comes later, but before W is there, counts
        new Probe(look).first(50, 1, 1).second(40, 1, 2).at(48).has(2, 0).second(49, 1, 3).at(50).has(1, 1).ends(4, "50:1,1,1,3<0,66>");
        // those that wait go in order, of equal ones those that came first
        new Probe(look, "m = map o : z = 1; output m;").second(1, 1, 1).first(50, 1, 9).first(50, 1, -9).first(50, 1, 9).first(50, 1, 3)
            .ends(1, "50:1<1,64> 50:1<3,64> 50:1<0,64> 50:1<2,64>");
    }

    /** Rows that wait are in order by all columns of their own input, be it the wider or the narrower one. */
    private static void lookOfOtherWidths() {
        String wider = "a = source 0 (k l m) lag 99; b = source 1 (x) lag 99; o = look a b by k x; p = map o : z = 1; output p;";
        String narrower = "a = source 0 (x) lag 99; b = source 1 (k l m) lag 99; o = look a b by x k; p = map o : z = m; output p;";
        for (int again = 0; again <= 1; again++) {
            House x = Check.house(wider);
            Check.give(x, Check.row(1, 1, 1), Check.row(0, 5, 1, 1, 9), Check.row(0, 5, 1, 1, 7), Check.row(0, 5, 1, -1, 8), Check.row(0, 5, 1, 1, 8));
            House y = Check.house(narrower);
            Check.give(y, Check.row(0, 9, 1), Check.row(1, 5, 1, 1, 9), Check.row(1, 5, 1, 2, -7), Check.row(1, 5, 1, 2, -8), Check.row(1, 5, 1, 1, 10));
            for (House h : new House[] {x, y}) {
                h.start(1, 8, 2);
                Check.settle(h);
                if (again == 1) {
                    h.mark();
                    Check.settle(h);
                    h.rescale(1);
                }
                Check.finish(h);
            }
            Check.same("rows of the wider one first", Check.rows(x, 0, 1), "5:1<2,64> 5:1<1,64> 5:1<3,64> 5:1<0,64>");
            Check.same("the greatest of the wider one", Check.rows(y, 0, 1), "9:-7<0,65>");
        }
    }

    /** "of the second input's rows of a KEY with times not above W all but the greatest go" */
    private static void lookKeeps() {
        new Probe("look c d by k l").second(10, 1, 1).second(20, 1, 1).second(30, 1, 1).has(3, 0).at(10).has(3, 0).at(19).has(3, 0).at(20).has(2, 0)
            .at(29).has(2, 0).at(30).has(1, 0).at(900).has(1, 0);
        new Probe("look c d by k l").second(10, 1, 1).second(10, 1, 2).second(10, 2, 1).at(9).has(3, 0).at(10).has(2, 0);
        // each KEY keeps its own; a later one of another KEY takes none away
        new Probe("look c d by k l").second(10, 1, 1).second(11, 2, 1).second(12, 3, 1).at(20).has(3, 0).first(25, 1, 1).at(25).has(3, 1);
    }

    /** "first all go whose first time is more than within before" */
    private static void matchWithin() {
        for (int within : new int[] {0, 1, 5, 1000}) {
            String match = "match c by k : v = 1 then v = 2 within " + within;
            int first = 50;
            for (int behind = Math.max(0, within - 1); behind <= within + 1; behind++) {
                boolean matched = behind <= within;
                new Probe(match).first(first, 1, 1).first(first + behind, 1, 2).ends(3, matched ? (first + behind) + ":1,50," + (first + behind) + "<0,1>" : "");
            }
        }
        // the second one at the same time, but before by order: it can't go on by it
        new Probe("match c by k : v = 2 then v = 1 within 5").first(50, 1, 1).first(50, 1, 2).ends(3, "");
        new Probe("match c by k : v = 1 then v = 2 within 5").first(50, 1, 2).first(50, 1, 1).ends(3, "50:1,50,50<0,1>");
        // from the first to the last of four, not from one to the next
        String four = "match c by k : v = 1 then v = 2 then v = 3 then v = 4 within 6";
        new Probe(four).first(50, 1, 1).first(52, 1, 2).first(54, 1, 3).first(56, 1, 4).ends(3, "56:1,50,56<0,1,2,3>");
        new Probe(four).first(50, 1, 1).first(52, 1, 2).first(54, 1, 3).first(57, 1, 4).ends(3, "");
        // it waits till W is its time or more
        new Probe("match c by k : v = 1 then v = 2 within 5").first(50, 1, 1).first(52, 1, 2).at(51).has(2, 0).at(52).has(0, 1);
        new Probe("match c by k : v = 1 then v = 2 within 5").first(50, 1, 1).at(49).has(1, 0).at(50).has(1, 0).first(51, 1, 2).has(2, 0).at(51).has(0, 1);
    }

    /** "Behind all that PARTIAL ones go whose first time is more than within before W + 1." */
    private static void matchKeeps() {
        for (int within : new int[] {0, 1, 5, 1000}) {
            Probe p = new Probe("match c by k : v = 1 then v = 2 within " + within).first(50, 1, 1).at(49).has(1, 0);
            if (within > 0) {
                p.at(50).has(1, 0).at(50 + within - 1).has(1, 0);
            }
            p.at(50 + within).has(0, 0);
        }
        // one that goes on is the same one
        new Probe("match c by k : v = 1 then v = 2 then v = 3 within 5").first(50, 1, 1).first(52, 1, 2).at(51).has(2, 0).at(52).has(1, 0).at(54).has(1, 0)
            .at(55).has(0, 0);
        // a row for which no VALUE holds leaves nothing
        new Probe("match c by k : v = 1 then v = 2 within 5").first(50, 1, 7).first(51, 1, 2).has(2, 0).at(51).has(0, 0);
        // one that is finished goes, its row begins a new one if the first VALUE holds
        new Probe("match c by k : 1 then 1 within 5").first(50, 1, 1).first(51, 1, 1).at(51).has(1, 1).at(55).has(1, 1).at(56).has(0, 1);
    }

    /** "of its KEY's PARTIAL ones, by their beginning .. each one whose next VALUE is not 0 for the row goes on by it" */
    private static void matchOrder() {
        String map = "m = map o : z = 1; output m;";
        new Probe("match c by k : v = 1 then v = 2 within 9", map).first(52, 1, 1).first(50, 1, 1).first(51, 1, 1).first(53, 1, 2)
            .ends(1, "53:1<1,3> 53:1<2,3> 53:1<0,3>");
        // those of other KEYS stay as they are
        new Probe("match c by k : v = 1 then v = 2 within 9").first(50, 1, 1).first(50, 2, 1).first(53, 2, 2).at(53).has(1, 1).ends(3, "53:2,50,53<1,2>");
        // a VALUE that is not 0 holds, also below 0
        new Probe("match c by k : v - 3 then v + 3 within 9").first(50, 1, 2).first(51, 1, -3).first(52, 1, 9).ends(3, "52:1,50,52<0,2> 52:1,51,52<1,2>");
    }

    /** "each in order goes on, unless one of its KEY went on less than within before" */
    private static void uniqueWithin() {
        for (int within : new int[] {1, 2, 5, 1000}) {
            String unique = "unique c by k within " + within;
            for (int behind = within - 1; behind <= within + 1; behind++) {
                boolean both = behind >= within;
                new Probe(unique).first(50, 1, 1).first(50 + behind, 1, 2).ends(2, "50:1,1<0>" + (both ? " " + (50 + behind) + ":1,2<1>" : ""));
                new Probe(unique).first(50, 1, 1).first(50 + behind, 2, 2).ends(2, "50:1,1<0> " + (50 + behind) + ":2,2<1>");
            }
        }
        // one that did not go on does not count
        new Probe("unique c by k within 3").first(50, 1, 1).first(52, 1, 1).first(53, 1, 1).first(55, 1, 1).first(56, 1, 1).ends(2, "50:1,1<0> 53:1,1<2> 56:1,1<4>");
        // in order by times and columns, not as they came
        new Probe("unique c by k within 3").first(52, 1, 1).first(50, 1, 7).first(50, 1, 4).ends(2, "50:1,4<2>");
        new Probe("unique c by k within 3").first(50, 1, 4).first(50, 1, 4).ends(2, "50:1,4<0>");
        new Probe("unique c by k within 3").first(50, 1, 1).at(49).has(1, 0).at(50).has(1, 1);
    }

    /** "(What is known of a KEY goes when W + 1 is within or more behind it.)" */
    private static void uniqueKeeps() {
        for (int within : new int[] {1, 2, 5, 1000}) {
            Probe p = new Probe("unique c by k within " + within).first(50, 1, 1).at(49).has(1, 0);
            if (within > 1) {
                p.at(50).has(1, 1).at(50 + within - 2).has(1, 1);
            }
            p.at(50 + within - 1).has(0, 1);
        }
        // a KEY is one record, as of when it went on last
        new Probe("unique c by k within 5").first(50, 1, 1).first(55, 1, 1).has(2, 0).at(54).has(1, 1).at(55).has(1, 2).at(58).has(1, 2).at(59).has(0, 2);
        new Probe("unique c by k within 5").first(50, 1, 1).first(54, 1, 1).first(50, 2, 1).has(3, 0).at(53).has(3, 2).at(54).has(0, 2);
    }

    /** "spans go from k span to k span + span - 1. When W is the last time of one or more" */
    private static void topSpans() {
        for (int span : new int[] {1, 2, 5, 1000}) {
            for (int time : new int[] {0, span - 1, span, 2 * span - 1, 2 * span}) {
                int last = time / span * span + span - 1;
                Probe p = new Probe("top 1 c by v span " + span).first(time, 1, 1).has(1, 0);
                if (last > 0) {
                    p.at(last - 1).has(1, 0);
                }
                p.at(last).has(0, 1).ends(3, last + ":1,1,1<0>");
            }
        }
        new Probe("top 1 c by v span 10").first(9, 1, 1).first(10, 1, 2).first(19, 1, 3).first(20, 1, 4).at(9).has(3, 1).at(18).has(3, 1).at(19).has(1, 2)
            .ends(3, "9:1,1,1<0> 19:1,3,1<2> 29:1,4,1<3>");
    }

    /** "the n greatest by the column by" */
    private static void topCounts() {
        for (int n : new int[] {1, 2, 8, 9}) {
            for (int rows = 1; rows <= 11; rows++) {
                Probe p = new Probe("top " + n + " c by v span 10");
                for (int i = 1; i <= rows; i++) {
                    p.first(i % 10, 1, i);
                }
                p.has(rows, 0).at(9).has(0, Math.min(n, rows));
                Check.finish(p.x);
                Check.same("rows", p.x.visible(0), Math.min(n, rows));
                for (int i = 0; i < p.x.visible(0); i++) {
                    Check.same("rank of " + p.x.row(0, i, 1), p.x.row(0, i, 2), rows - p.x.row(0, i, 1) + 1);
                }
            }
        }
    }

    /** "of equal ones the lesser ones by order"; "Of equal rows that wait .. those that came first go first." */
    private static void topOrder() {
        String top = "top 2 c by v span 10";
        new Probe(top).first(3, 1, 5).first(1, 9, 5).first(2, 1, 5).ends(3, "9:1,5,2<2> 9:9,5,1<1>");
        new Probe(top).first(3, 7, 5).first(3, 6, 5).first(3, -6, 5).ends(3, "9:-6,5,1<2> 9:6,5,2<1>");
        new Probe(top).first(3, 7, 5).first(3, 7, 5).first(3, 7, 5).ends(3, "9:7,5,1<0> 9:7,5,2<1>");
        new Probe(top).first(3, 1, -1).first(3, 1, Long.MIN_VALUE).first(3, 1, Long.MAX_VALUE).ends(3, "9:1,-1,2<0> 9:1," + Long.MAX_VALUE + ",1<2>");
        new Probe("top 2 c by k span 10").first(3, 1, 9).first(4, 2, 1).first(5, 2, 9).ends(3, "9:2,1,1<1> 9:2,9,2<2>");
        // by the spans, and in each by rank, as filters show to which they are dealt
        House x = Check.house("a = source 0 (k) lag 99; t = top 9 a by k span 10; f = filter t : 1 / (k - 5) + 1 / (k - 8) + 1; output f;");
        x.give(0, 12, 3, 0, 0, 0);
        x.give(0, 14, 5, 0, 0, 0);
        x.give(0, 15, 8, 0, 0, 0);
        x.give(0, 1, 7, 0, 0, 0);
        x.start(4, 8, 3);
        Check.finish(x);
        // 7 of the first span to part 0; 8, 5 and 3 of the second one to parts 1, 2 and 3
        int[] aside = {0, 1, 1, 0};
        for (int p = 0; p < 4; p++) {
            Check.same("aside in part " + p, x.task(2 + p, 6), aside[p]);
        }
    }

    /** "A row of which a VALUE that is needed is BAD goes ASIDE, as it comes: nothing else comes of it" */
    private static void asideAsItComes() {
        new Probe("filter c : 1 / (v - 5)").first(50, 1, 5).aside(1).has(0, 0).first(50, 1, 6).aside(1).has(0, 1);
        new Probe("map c : x = 1, y = 1 % (v - 5), z = 2").first(50, 1, 5).aside(1).has(0, 0).first(50, 1, 6).aside(1).has(0, 1);
        new Probe("fold c by k gap 5 : n = count, s = sum 1 / (v - 5), m = count").first(50, 1, 5).aside(1).has(0, 0).first(50, 1, 6).aside(1).has(1, 0)
            .first(51, 1, 5).aside(2).has(1, 0).ends(4, "54:1,1,1,1<1>");
        new Probe("fold c by k span 8 step 1 : s = sum 1 / (v - 5)").first(50, 1, 5).aside(1).has(0, 0).first(50, 1, 6).aside(1).has(8, 0);
        // of a match all VALUES, also those that no PARTIAL one asks for
        new Probe("match c by k : 1 then 1 then 1 / (v - 5) within 5").first(50, 1, 5).aside(1).has(0, 0).first(50, 1, 6).aside(1).has(1, 0);
        new Probe("match c by k : 0 then 1 / (v - 5) within 5").first(50, 1, 5).aside(1).has(0, 0);
        new Probe("match c by k : 1 / (v - 5) then 1 within 5").first(50, 1, 5).aside(1).has(0, 0).first(50, 1, 6).has(1, 0).at(50).has(1, 0).aside(1);
    }

    /** "ROWS are in order by their times, then by their columns from the first on." */
    private static void orderOfRows() {
        House x = Check.house("a = source 0 (k l m n) lag 999; b = map a : c = k, d = l, e = m, f = n, g = n, h = m, i = l, j = time - time + k; output a; output b;");
        long[][] rows = {{5, 1, 1, 1, 1}, {5, 1, 1, 1, -1}, {5, 1, 1, -2, 9}, {5, 1, -3, 9, 9}, {5, Long.MIN_VALUE, 9, 9, 9}, {5, Long.MAX_VALUE, 0, 0, 0}, {4, 9, 9, 9, 9},
            {0, 7, 7, 7, 7}, {500, -7, 7, 7, 7}, {5, 1, 1, 1, 1}};
        for (long[] r : rows) {
            x.give(0, (int) r[0], r[1], r[2], r[3], r[4]);
        }
        x.start(3, 2, 8);
        Check.finish(x);
        int[] due = {7, 6, 4, 3, 2, 1, 0, 9, 5, 8};
        for (int o = 0; o < 2; o++) {
            for (int i = 0; i < due.length; i++) {
                // the two equal ones of the map come from different tasks
                int got = x.lineage(o, i, 0);
                Check.same("row " + i + " of output " + o, o == 1 && got == 9 ? 0 : got, o == 1 && due[i] == 9 ? 0 : due[i]);
            }
        }
    }
}
