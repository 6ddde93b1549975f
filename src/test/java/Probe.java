/**
 * One operator, the task 4 of a run, whose two inputs can be told how far they are: rows with 0 in their second column
 * do not come to it, but their watermarks do.
 */
final class Probe {
    private static final int LAG = 100;
    private static final int OPERATOR = 4;

    final House x;
    private final String what;

    /** The operator's inputs are c (k v) and d (l w); it is o. */
    Probe(String operator) {
        this(operator, "output o;");
    }

    Probe(String operator, String rest) {
        what = operator;
        x = Check.house("a = source 0 (k v) lag " + LAG + "; b = source 1 (l w) lag " + LAG + "; c = filter a : v; d = filter b : w; o = " + operator + "; " + rest);
        x.start(1, 8, 20);
    }

    Probe first(int time, long key, long value) {
        x.give(0, time, key, value, 0, 0);
        Check.settle(x);
        return this;
    }

    Probe second(int time, long key, long value) {
        x.give(1, time, key, value, 0, 0);
        Check.settle(x);
        return this;
    }

    /** Both inputs are at this watermark. */
    Probe at(int w) {
        x.give(0, w + LAG + 1, 0, 0, 0, 0);
        x.give(1, w + LAG + 1, 0, 0, 0, 0);
        Check.settle(x);
        Check.same(what + ": watermark", x.task(OPERATOR, 2), w);
        return this;
    }

    /** How many records it has, and how many rows it has made. */
    Probe has(int records, int made) {
        long w = x.task(OPERATOR, 2);
        Check.same(what + " at " + w + ": records", x.task(OPERATOR, 4), records);
        Check.same(what + " at " + w + ": rows", x.told(11), made);
        return this;
    }

    Probe aside(int rows) {
        Check.same(what + ": aside", x.task(OPERATOR, 6), rows);
        return this;
    }

    /** All rows in the end. */
    void ends(int columns, String due) {
        Check.finish(x);
        Check.same(what + ": rows", Check.rows(x, 0, columns), due);
        Check.same(what + ": right", x.onePass() ? 1 : 0, 1);
    }
}
