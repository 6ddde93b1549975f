import java.util.StringJoiner;

/** What the tests share: answers that are held against what is due, and short ways to a run. */
final class Check {
    private static int asked = 0;
    private static int wrong = 0;

    interface Call {
        long answer();
    }

    private Check() {
    }

    static void same(String what, long got, long due) {
        asked++;
        if (got != due) {
            wrong++;
            System.out.println(what + " answered " + got + ", due is " + due);
        }
    }

    static void same(String what, String got, String due) {
        asked++;
        if (!got.equals(due)) {
            wrong++;
            System.out.println(what + " answered\n  " + got + ", due is\n  " + due);
        }
    }

    static void throwsIt(String what, Class<? extends RuntimeException> due, Call call) {
        asked++;
        String got;
        try {
            got = "answered " + call.answer();
        } catch (RuntimeException e) {
            if (e.getClass() == due) {
                return;
            }
            got = "threw " + e.getClass().getName();
        }
        wrong++;
        System.out.println(what + " " + got + ", due is " + due.getName());
    }

    static void index(String what, Call call) {
        throwsIt(what, IndexOutOfBoundsException.class, call);
    }

    static void state(String what, Call call) {
        throwsIt(what, IllegalStateException.class, call);
    }

    static void argument(String what, Call call) {
        throwsIt(what, IllegalArgumentException.class, call);
    }

    static void room(String what, Call call) {
        throwsIt(what, UnsupportedOperationException.class, call);
    }

    static void end() {
        System.out.println(wrong == 0 ? asked + " answers are as due" : wrong + " of " + asked + " answers are not as due");
        if (wrong != 0) {
            System.exit(1);
        }
    }

    static void feed(House x, String text) {
        for (int at = 0; at < text.length(); at += 8) {
            int n = Math.min(8, text.length() - at);
            long bytes = 0;
            for (int i = 0; i < n; i++) {
                bytes = bytes << 8 | text.charAt(at + i);
            }
            x.feed(bytes, n);
        }
    }

    static House house(String text) {
        House x = new House();
        feed(x, text);
        int operators = x.job();
        if (operators < 0) {
            same("job of " + text, operators, 0);
        }
        return x;
    }

    /** A text with a ^ before the token at which its fault is. */
    static void fault(int due, String marked) {
        int place = marked.indexOf('^');
        House x = new House();
        same("fault before a text", x.fault(), 0);
        feed(x, marked.replace("^", ""));
        same("job: " + marked, x.job(), -1 - place);
        same("fault: " + marked, x.fault(), due);
        same("no job", x.told(0), 0);
    }

    static void good(String text, int operators) {
        House x = new House();
        feed(x, text);
        same("job: " + text, x.job(), operators);
        same("fault: " + text, x.fault(), 0);
    }

    /** Rows are: source, time, columns. */
    static void give(House x, long[]... rows) {
        for (long[] r : rows) {
            x.give((int) r[0], (int) r[1], at(r, 2), at(r, 3), at(r, 4), at(r, 5));
        }
    }

    private static long at(long[] row, int i) {
        return i < row.length ? row[i] : 0;
    }

    static long[] row(long... numbers) {
        return numbers;
    }

    static void closeAll(House x) {
        for (int s = 0; s < 4; s++) {
            try {
                x.close(s);
            } catch (IllegalStateException e) {
                continue; // the job has not that source
            }
        }
    }

    /** Turns till nothing is taken any more. */
    static void settle(House x) {
        for (int i = 0; i < 200 && x.turn(2000) > 0; i++) {
            continue;
        }
    }

    /** All sources are closed, all rows go through, and a mark makes them visible. */
    static void finish(House x) {
        closeAll(x);
        settle(x);
        x.mark();
        settle(x);
    }

    /** The visible rows of an output: time:columns, and in angles what they were made of; asked of twins. */
    static String rows(House of, int output, int columns) {
        House x = of.twin();
        int count = x.visible(output);
        StringJoiner all = new StringJoiner(" ");
        for (int i = 0; i < count; i++) {
            StringJoiner row = new StringJoiner(",");
            x = ready(of, x, columns + 2);
            for (int c = 0; c < columns; c++) {
                row.add(Long.toString(x.row(output, i, c)));
            }
            String time = x.row(output, i, StreamHouse.NONE) + ":";
            StringJoiner made = new StringJoiner(",", "<", ">");
            int members = x.lineage(output, i, StreamHouse.NONE);
            for (int k = 0; k < members; k++) {
                x = ready(of, x, 1);
                made.add(Integer.toString(x.lineage(output, i, k)));
            }
            all.add(time + row + made);
        }
        return all.toString();
    }

    private static House ready(House of, House x, int calls) {
        return x.callsLeft() < calls ? of.twin() : x;
    }

    /** A seed for which the first turns go to these tasks, a letter for each: A is task 0, B task 1. */
    static long seedFor(int tasks, String turns) {
        for (long seed = 0; seed < 200_000_000L; seed++) {
            long x = seed;
            int i = 0;
            for (; i < turns.length(); i++) {
                x = x * 6364136223846793005L + 1442695040888963407L;
                if ((x >>> 33) % tasks != turns.charAt(i) - 'A') {
                    break;
                }
            }
            if (i == turns.length()) {
                return seed;
            }
        }
        throw new IllegalStateException("no seed for " + turns);
    }
}
