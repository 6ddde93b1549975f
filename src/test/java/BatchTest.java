import java.util.ArrayList;
import java.util.Arrays;
import java.util.Collections;
import java.util.Comparator;
import java.util.List;
import java.util.Map;
import java.util.TreeMap;
import java.util.TreeSet;
import java.util.function.Function;

/**
 * Parts 4 and 6 of the document, told anew for all rows at once, without turns, watermarks or states: what random jobs put
 * out in the end, and of which rows, held against runs with marks, failures and other numbers of tasks (promises 9 to 18).
 */
public final class BatchTest {
    private static long state = 7;

    private static int choose(int n) {
        state = state * 6364136223846793005L + 1442695040888963407L;
        return (int) ((state >>> 33) % n);
    }

    private static final class Row {
        final long time;
        final long[] columns;
        final TreeSet<Integer> from = new TreeSet<>();

        Row(long time, long... columns) {
            this.time = time;
            this.columns = columns;
        }

        Row of(Row... rows) {
            for (Row r : rows) {
                from.addAll(r.from);
            }
            return this;
        }

        String text() {
            StringBuilder text = new StringBuilder().append(time);
            for (int i = 0; i < columns.length; i++) {
                text.append(i == 0 ? ":" : ",").append(columns[i]);
            }
            return text + from.toString().replace("[", "<").replace("]", ">").replace(" ", "");
        }
    }

    private static final Comparator<Row> ORDER = (a, b) -> a.time != b.time ? Long.compare(a.time, b.time) : Arrays.compare(a.columns, b.columns);

    /** An operator with all its rows, as they come. */
    private static final class Made {
        final String name;
        final String[] columns;
        final List<Row> rows;

        Made(String name, String[] columns, List<Row> rows) {
            this.name = name;
            this.columns = columns;
            this.rows = rows;
        }
    }

    private static final StringBuilder TEXT = new StringBuilder();
    private static final List<Made> ALL = new ArrayList<>();
    private static final List<long[]> GIVEN = new ArrayList<>();

    public static void main(String[] args) {
        for (int round = 0; round < 800; round++) {
            TEXT.setLength(0);
            ALL.clear();
            GIVEN.clear();
            source(0, "k", "v");
            source(1, "l", "w");
            int operators = 1 + choose(4);
            for (int i = 0; i < operators; i++) {
                addOperator("o" + (char) ('a' + i), choose(11));
            }
            List<Made> outputs = new ArrayList<>();
            for (int i = 0; i < 1 + choose(3); i++) {
                Made made = ALL.get(ALL.size() - 1 - choose(Math.min(2, ALL.size())));
                TEXT.append("output ").append(made.name).append("; ");
                outputs.add(made);
            }
            int rows = 0;
            for (Made made : ALL) {
                rows += made.rows.size();
            }
            if (rows <= 900) {
                runs(round, outputs);
            }
        }
        Check.end();
    }

    /** Rows of which no two are alike, and some are late. */
    private static void source(int number, String key, String value) {
        int lag = choose(8);
        String name = number == 0 ? "a" : "b";
        TEXT.append(name + " = source " + number + " (" + key + " " + value + ") lag " + lag + "; ");
        List<Row> rows = new ArrayList<>();
        long greatest = Long.MIN_VALUE / 2;
        for (int place = 0; place < 5 + choose(12); place++) {
            long time = Math.max(0, place + choose(12) - choose(4));
            long[] given = {number, time, choose(3), place - 3};
            GIVEN.add(given);
            if (time <= Math.max(-1, greatest - lag - 1)) {
                continue;
            }
            greatest = Math.max(greatest, time);
            Row row = new Row(time, given[2], given[3]);
            row.from.add(64 * number + place);
            rows.add(row);
        }
        ALL.add(new Made(name, new String[] {key, value}, rows));
    }

    private static void addOperator(String name, int kind) {
        Made in = ALL.get(choose(ALL.size()));
        int by = choose(in.columns.length);
        String column = in.columns[by];
        switch (kind) {
            case 0:
                add(name, "filter " + in.name + " : " + column + " % 3", in.columns, each(in.rows, r -> r.columns[by] % 3 != 0 ? r : null));
                break;
            case 1:
                add(name, "filter " + in.name + " : 7 / (" + column + " - 1) | time > 5", in.columns,
                    each(in.rows, r -> r.columns[by] != 1 && (7 / (r.columns[by] - 1) != 0 || r.time > 5) ? r : null));
                break;
            case 2:
                map(name, in, by);
                break;
            case 3:
                List<Row> both = new ArrayList<>(in.rows);
                both.addAll(in.rows);
                add(name, "union " + in.name + " " + in.name, in.columns, both);
                break;
            case 4:
                spans(name, in, by, 1 + choose(4));
                break;
            case 5:
                gaps(name, in, by, 1 + choose(6));
                break;
            case 6:
            case 7:
                pairs(name, in, by, kind == 6);
                break;
            case 8:
                match(name, in, by, choose(12));
                break;
            case 9:
                unique(name, in, by, 1 + choose(9));
                break;
            default:
                top(name, in, by, 1 + choose(3), 1 + choose(9));
                break;
        }
    }

    /** All columns by other NAMES, so that rows which are not alike stay so, and one more. */
    private static void map(String name, Made in, int by) {
        int width = in.columns.length;
        if (width > 6) {
            return;
        }
        String[] columns = new String[width + 1];
        StringBuilder text = new StringBuilder("map " + in.name + " : ");
        for (int i = 0; i < width; i++) {
            columns[i] = name.substring(1) + (char) ('p' + i);
            text.append(columns[i] + " = " + in.columns[i] + ", ");
        }
        columns[width] = name.substring(1) + "x";
        String c = in.columns[by];
        add(name, text + columns[width] + " = time + " + c + " * " + c + " - 3", columns, each(in.rows, r -> {
            long[] made = Arrays.copyOf(r.columns, width + 1);
            made[width] = r.time + r.columns[by] * r.columns[by] - 3;
            return new Row(r.time, made).of(r);
        }));
    }

    private static void add(String name, String text, String[] columns, List<Row> rows) {
        TEXT.append(name + " = " + text + "; ");
        ALL.add(new Made(name, columns, rows));
    }

    private static List<Row> each(List<Row> rows, Function<Row, Row> what) {
        List<Row> made = new ArrayList<>();
        for (Row r : rows) {
            Row m = what.apply(r);
            if (m != null) {
                made.add(m);
            }
        }
        return made;
    }

    private static void spans(String name, Made in, int by, int step) {
        if (isAggregate(in.columns[by])) {
            return;
        }
        int span = step + choose(7 * step + 1);
        Map<Long, Map<Long, List<Row>>> all = new TreeMap<>();
        for (Row r : in.rows) {
            for (long k = -20; k <= 2000; k++) {
                if (k * step <= r.time && r.time < k * step + span) {
                    all.computeIfAbsent(k * step + span - 1, x -> new TreeMap<>()).computeIfAbsent(r.columns[by], x -> new ArrayList<>()).add(r);
                }
            }
        }
        List<Row> made = new ArrayList<>();
        all.forEach((last, keys) -> keys.forEach((key, rows) -> made.add(folded(last, key, rows))));
        add(name, "fold " + in.name + " by " + in.columns[by] + " span " + span + " step " + step + " : n = count, s = sum " + in.columns[0] + " * time, m = most "
            + in.columns[in.columns.length - 1], withBy(in, by), made);
    }

    private static boolean isAggregate(String column) {
        return column.equals("n") || column.equals("s") || column.equals("m");
    }

    private static String[] withBy(Made in, int by) {
        return new String[] {in.columns[by], "n", "s", "m"};
    }

    private static Row folded(long time, long key, List<Row> rows) {
        long sum = 0;
        long most = Long.MIN_VALUE;
        for (Row r : rows) {
            sum += r.columns[0] * r.time;
            most = Math.max(most, r.columns[r.columns.length - 1]);
        }
        return new Row(time, key, rows.size(), sum, most).of(rows.toArray(new Row[0]));
    }

    /** Sessions: rows of a KEY by their times, cut where the next one is gap or more behind. */
    private static void gaps(String name, Made in, int by, int gap) {
        if (isAggregate(in.columns[by])) {
            return;
        }
        Map<Long, List<Row>> keys = byKey(in.rows, by);
        List<Row> made = new ArrayList<>();
        keys.forEach((key, rows) -> {
            List<Row> sorted = new ArrayList<>(rows);
            sorted.sort(Comparator.comparingLong(r -> r.time));
            int from = 0;
            for (int i = 1; i <= sorted.size(); i++) {
                if (i == sorted.size() || sorted.get(i).time - sorted.get(i - 1).time >= gap) {
                    made.add(folded(sorted.get(i - 1).time + gap - 1, key, sorted.subList(from, i)));
                    from = i;
                }
            }
        });
        made.sort(Comparator.comparingLong(r -> r.time));
        add(name, "fold " + in.name + " by " + in.columns[by] + " gap " + gap + " : n = count, s = sum " + in.columns[0] + " * time, m = most "
            + in.columns[in.columns.length - 1], withBy(in, by), made);
    }

    private static Map<Long, List<Row>> byKey(List<Row> rows, int by) {
        Map<Long, List<Row>> keys = new TreeMap<>();
        for (Row r : rows) {
            keys.computeIfAbsent(r.columns[by], x -> new ArrayList<>()).add(r);
        }
        return keys;
    }

    private static void pairs(String name, Made in, int by, boolean join) {
        Made other = null;
        for (Made m : ALL) {
            boolean shares = false;
            for (String c : m.columns) {
                shares |= Arrays.asList(in.columns).contains(c);
            }
            if (!shares && in.columns.length + m.columns.length <= 8 && (other == null || choose(2) == 0)) {
                other = m;
            }
        }
        if (other == null) {
            return;
        }
        int second = choose(other.columns.length);
        String[] columns = Arrays.copyOf(in.columns, in.columns.length + other.columns.length);
        System.arraycopy(other.columns, 0, columns, in.columns.length, other.columns.length);
        String inputs = in.name + " " + other.name + " by " + in.columns[by] + " " + other.columns[second];
        if (join) {
            int least = choose(13) - 6;
            int most = least + choose(7);
            List<Row> made = new ArrayList<>();
            for (Row a : in.rows) {
                for (Row b : other.rows) {
                    if (a.columns[by] == b.columns[second] && b.time - a.time >= least && b.time - a.time <= most) {
                        made.add(pair(a, b, Math.max(a.time, b.time)));
                    }
                }
            }
            add(name, "join " + inputs + " within " + signed(least) + " " + signed(most), columns, made);
        } else {
            List<Row> firsts = new ArrayList<>(in.rows);
            firsts.sort(ORDER);
            List<Row> seconds = new ArrayList<>(other.rows);
            // of equal ones the first one is the last of these that is not greater
            Collections.reverse(seconds);
            seconds.sort(ORDER);
            add(name, "look " + inputs, columns, each(firsts, a -> {
                Row best = null;
                for (Row b : seconds) {
                    best = b.time <= a.time && b.columns[second] == a.columns[by] ? b : best;
                }
                return best == null ? null : pair(a, best, a.time);
            }));
        }
    }

    private static String signed(int n) {
        return n < 0 ? "- " + -n : "" + n;
    }

    private static Row pair(Row a, Row b, long time) {
        long[] columns = Arrays.copyOf(a.columns, a.columns.length + b.columns.length);
        System.arraycopy(b.columns, 0, columns, a.columns.length, b.columns.length);
        return new Row(time, columns).of(a, b);
    }

    /** From each row by which one begins to the first one behind it that goes on, and from there to the next. */
    private static void match(String name, Made in, int by, int within) {
        if (in.columns[by].equals("from") || in.columns[by].equals("to")) {
            return;
        }
        int c = in.columns.length - 1;
        List<Row> made = new ArrayList<>();
        byKey(in.rows, by).forEach((key, rows) -> {
            List<Row> sorted = new ArrayList<>(rows);
            sorted.sort(ORDER);
            List<List<Row>> endsAt = new ArrayList<>();
            for (int i = 0; i < sorted.size(); i++) {
                endsAt.add(new ArrayList<>());
            }
            for (int i = 0; i < sorted.size(); i++) {
                Row start = sorted.get(i);
                int next = sorted.get(i).columns[c] % 2 != 0 ? firstBehind(sorted, i, r -> r.columns[c] % 3 == 0) : -1;
                int last = next < 0 ? -1 : firstBehind(sorted, next, r -> r.columns[c] > 0 || r.time > 8);
                if (last >= 0 && sorted.get(last).time - start.time <= within) {
                    endsAt.get(last).add(new Row(sorted.get(last).time, key, start.time, sorted.get(last).time).of(start, sorted.get(next), sorted.get(last)));
                }
            }
            endsAt.forEach(made::addAll);
        });
        made.sort(Comparator.comparingLong(r -> r.time));
        String v = in.columns[c];
        add(name, "match " + in.name + " by " + in.columns[by] + " : " + v + " % 2 then " + v + " % 3 = 0 then " + v + " > 0 | time > 8 within " + within,
            new String[] {in.columns[by], "from", "to"}, made);
    }

    private static int firstBehind(List<Row> rows, int i, Function<Row, Boolean> holds) {
        for (int k = i + 1; k < rows.size(); k++) {
            if (holds.apply(rows.get(k))) {
                return k;
            }
        }
        return -1;
    }

    private static void unique(String name, Made in, int by, int within) {
        List<Row> made = new ArrayList<>();
        byKey(in.rows, by).forEach((key, rows) -> {
            List<Row> sorted = new ArrayList<>(rows);
            sorted.sort(ORDER);
            long last = Long.MIN_VALUE / 2;
            for (Row r : sorted) {
                if (r.time - last >= within) {
                    made.add(r);
                    last = r.time;
                }
            }
        });
        made.sort(ORDER);
        add(name, "unique " + in.name + " by " + in.columns[by] + " within " + within, in.columns, made);
    }

    private static void top(String name, Made in, int by, int n, int span) {
        if (in.columns.length == 8 || Arrays.asList(in.columns).contains("rank")) {
            return;
        }
        Map<Long, List<Row>> spans = new TreeMap<>();
        for (Row r : in.rows) {
            spans.computeIfAbsent(Math.floorDiv(r.time, (long) span), x -> new ArrayList<>()).add(r);
        }
        List<Row> made = new ArrayList<>();
        spans.forEach((k, rows) -> {
            rows.sort(Comparator.comparing((Row r) -> r.columns[by], Comparator.reverseOrder()).thenComparing(ORDER));
            for (int i = 0; i < n && i < rows.size(); i++) {
                long[] columns = Arrays.copyOf(rows.get(i).columns, in.columns.length + 1);
                columns[in.columns.length] = i + 1;
                made.add(new Row(k * span + span - 1, columns).of(rows.get(i)));
            }
        });
        String[] columns = Arrays.copyOf(in.columns, in.columns.length + 1);
        columns[in.columns.length] = "rank";
        add(name, "top " + n + " " + in.name + " by " + in.columns[by] + " span " + span, columns, made);
    }

    private static void runs(int round, List<Made> outputs) {
        House given = Check.house(TEXT.toString());
        for (long[] g : GIVEN) {
            given.give((int) g[0], (int) g[1], g[2], g[3], 0, 0);
        }
        for (int kind = 0; kind < 3; kind++) {
            House x = given.twin();
            x.start(1 + choose(4), 1 + choose(8), choose(1000000));
            for (int i = 0; i < kind; i++) {
                disturb(x);
            }
            Check.finish(x);
            if (x.told(6) != 0) {
                Check.settle(x);
            }
            for (int o = 0; o < outputs.size(); o++) {
                List<String> due = new ArrayList<>();
                for (Row r : outputs.get(o).rows) {
                    due.add(r.text());
                }
                Collections.sort(due);
                List<String> got = new ArrayList<>();
                for (String r : Check.rows(x, o, outputs.get(o).columns.length).split(" ")) {
                    if (!r.isEmpty()) {
                        got.add(r);
                    }
                }
                Collections.sort(got);
                Check.same("round " + round + ", run " + kind + ", output " + o + " of " + TEXT, got.toString(), due.toString());
            }
            Check.same("one pass of round " + round, x.onePass() ? 1 : 0, 1);
        }
    }

    private static void disturb(House x) {
        x.turn(1 + choose(300));
        if (x.told(6) == 0) {
            x.mark();
        }
        x.turn(1 + choose(300));
        switch (choose(4)) {
            case 0:
                x.fail();
                break;
            case 1:
                x.rescale(1 + choose(4));
                break;
            case 2:
                x.crash(choose(20));
                x.turn(1 + choose(300));
                if (x.told(9) == 1) {
                    x.reopen();
                }
                x.crash(-1);
                break;
            default:
                x.turn(1 + choose(300));
                break;
        }
        Check.settle(x);
    }
}
