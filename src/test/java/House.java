import java.util.ArrayList;
import java.util.List;
import java.util.StringJoiner;
import java.util.function.ToLongFunction;

/**
 * A StreamHouse that counts its calls, as an object is promised for 512 of them alone, and keeps them, so that another
 * object can be brought to where it is.
 */
final class House {
    static final int MOST_CALLS = 512;

    private final StreamHouse it = new StreamHouse();
    private final List<ToLongFunction<StreamHouse>> calls = new ArrayList<>();

    private long call(ToLongFunction<StreamHouse> next) {
        if (calls.size() == MOST_CALLS) {
            throw new Error("a test makes more than " + MOST_CALLS + " calls of one object");
        }
        calls.add(next);
        return next.applyAsLong(it);
    }

    /** Another object, behind the same calls. */
    House twin() {
        House other = new House();
        for (ToLongFunction<StreamHouse> c : calls) {
            other.tryIt(c);
        }
        return other;
    }

    private void tryIt(ToLongFunction<StreamHouse> c) {
        try {
            call(c);
        } catch (RuntimeException e) {
            return; // it threw when it was called first, too
        }
    }

    int callsLeft() {
        return MOST_CALLS - calls.size();
    }

    /** All that can be asked of where it is, asked of twins, so that it has no more calls than before. */
    String picture() {
        return new Picture(this).text();
    }

    int feed(long bytes, int n) {
        return (int) call(x -> x.feed(bytes, n));
    }

    int job() {
        return (int) call(x -> x.job());
    }

    int fault() {
        return (int) call(x -> x.fault());
    }

    long operator(int operator, int what) {
        return call(x -> x.operator(operator, what));
    }

    int give(int source, int time, long a, long b, long c, long d) {
        return (int) call(x -> x.give(source, time, a, b, c, d));
    }

    boolean close(int source) {
        return call(x -> x.close(source) ? 1 : 0) == 1;
    }

    int start(int parallel, int room, long seed) {
        return (int) call(x -> x.start(parallel, room, seed));
    }

    int turn(int n) {
        return (int) call(x -> x.turn(n));
    }

    int mark() {
        return (int) call(x -> x.mark());
    }

    int fail() {
        return (int) call(x -> x.fail());
    }

    int rescale(int parallel) {
        return (int) call(x -> x.rescale(parallel));
    }

    void crash(int n) {
        call(x -> {
            x.crash(n);
            return 0;
        });
    }

    int reopen() {
        return (int) call(x -> x.reopen());
    }

    int visible(int output) {
        return (int) call(x -> x.visible(output));
    }

    long row(int output, int i, int column) {
        return call(x -> x.row(output, i, column));
    }

    int lineage(int output, int i, int k) {
        return (int) call(x -> x.lineage(output, i, k));
    }

    boolean onePass() {
        return call(x -> x.onePass() ? 1 : 0) == 1;
    }

    long task(int task, int what) {
        return call(x -> x.task(task, what));
    }

    long channel(int channel, int what) {
        return call(x -> x.channel(channel, what));
    }

    int records(int operator, long key) {
        return (int) call(x -> x.records(operator, key));
    }

    int told(int what) {
        return (int) call(x -> x.told(what));
    }

    void clear() {
        call(x -> {
            x.clear();
            return 0;
        });
    }

    /** Asks all that there is to ask, of one twin behind the other. */
    private static final class Picture {
        private final House of;
        private final StringJoiner all = new StringJoiner(" ");
        private House asked;

        Picture(House of) {
            this.of = of;
            this.asked = of.twin();
        }

        private String ask(ToLongFunction<StreamHouse> question) {
            if (asked.callsLeft() == 0) {
                asked = of.twin();
            }
            try {
                return Long.toString(asked.call(question));
            } catch (RuntimeException e) {
                return e.getClass().getSimpleName();
            }
        }

        private void add(String name, ToLongFunction<StreamHouse> question) {
            all.add(name + "=" + ask(question));
        }

        String text() {
            add("fault", x -> x.fault());
            for (int w = -1; w <= 15; w++) {
                int what = w;
                add("told" + w, x -> x.told(what));
            }
            operators(Integer.parseInt(ask(x -> x.told(0))));
            outputs(Integer.parseInt(ask(x -> x.told(13))));
            tasks(Integer.parseInt(ask(x -> x.told(1))));
            channels(Integer.parseInt(ask(x -> x.told(2))));
            add("right", x -> x.onePass() ? 1 : 0);
            return all.toString();
        }

        private void operators(int n) {
            for (int i = 0; i < n; i++) {
                int operator = i;
                for (int w = 0; w <= 11; w++) {
                    int what = w;
                    add("operator" + i + "." + w, x -> x.operator(operator, what));
                }
                for (int k = 0; k <= 3; k++) {
                    int key = k;
                    add("records" + i + "." + k, x -> x.records(operator, key));
                }
            }
        }

        private void outputs(int n) {
            for (int o = 0; o < n; o++) {
                int output = o;
                int rows = Integer.parseInt(ask(x -> x.visible(output)));
                add("visible" + o, x -> x.visible(output));
                for (int i = 0; i < rows; i++) {
                    int row = i;
                    for (int c = -1; c < 8; c++) {
                        int column = c;
                        add("row" + o + "." + i + "." + c, x -> x.row(output, row, column));
                        add("lineage" + o + "." + i + "." + c, x -> x.lineage(output, row, column));
                    }
                }
            }
        }

        private void tasks(int n) {
            for (int t = 0; t < n; t++) {
                int task = t;
                for (int w = 0; w <= 8; w++) {
                    int what = w;
                    add("task" + t + "." + w, x -> x.task(task, what));
                }
            }
        }

        private void channels(int n) {
            for (int c = 0; c < n; c++) {
                int channel = c;
                for (int w = 0; w <= 5; w++) {
                    int what = w;
                    add("channel" + c + "." + w, x -> x.channel(channel, what));
                }
            }
        }
    }
}
