import java.util.ArrayList;
import java.util.LinkedHashMap;
import java.util.List;
import java.util.Map;
import java.util.function.ToLongFunction;

/**
 * Every call that is refused, wherever it is: "Of several that a call names, the first one in this order. A call that
 * throws changes nothing but the tape, which job() uses up." (promises 2 to 22)
 */
public final class RefusedTest {
    private static final int LEAST = Integer.MIN_VALUE;
    private static final int MOST = Integer.MAX_VALUE;
    private static final Class<? extends RuntimeException> INDEX = IndexOutOfBoundsException.class;
    private static final Class<? extends RuntimeException> STATE = IllegalStateException.class;
    private static final Class<? extends RuntimeException> ARGUMENT = IllegalArgumentException.class;
    private static final Class<? extends RuntimeException> ROOM = UnsupportedOperationException.class;

    private static final String JOB = "a = source 0 (k v) lag 2; b = source 2 (l) lag 0; f = filter a : v / k; j = join f b by k l within - 3 3;"
        + "o = fold a by k span 4 step 2 : n = count; t = top 2 a by v span 5; output j; output t;";

    private static final Map<String, House> SCENES = new LinkedHashMap<>();
    private static String sceneName;
    private static House scene;
    private static String pictureBefore;
    private static String futureBefore;

    public static void main(String[] args) {
        SCENES.put("a new one", new House());
        SCENES.put("one with a faulty text alone", faulty());
        SCENES.put("one with a job", withJob());
        SCENES.put("one with full sources", full());
        SCENES.put("one that runs", running());
        SCENES.put("one with an open mark", withOpenMark());
        SCENES.put("a broken one", broken());
        SCENES.put("one that is down", down());
        SCENES.put("one that is open again", reopened());
        SCENES.put("a cleared one", cleared());
        SCENES.put("one with a full tape", withFullTape());
        for (Map.Entry<String, House> entry : SCENES.entrySet()) {
            sceneName = entry.getKey();
            scene = entry.getValue();
            pictureBefore = scene.picture();
            futureBefore = future(scene.twin());
            everyCall();
            questionsChangeNothing();
        }
        jobOfAHouseThatIsDown();
        faultsChangeNothing();
        Check.end();
    }

    private static House faulty() {
        House x = new House();
        Check.feed(x, JOB + " output z;");
        x.job();
        return x;
    }

    private static House withJob() {
        House x = Check.house(JOB);
        Check.give(x, Check.row(0, 5, 1, 10), Check.row(0, 7, 1, 30), Check.row(2, 6, 1));
        x.close(2);
        Check.feed(x, "x = ");
        return x;
    }

    private static House full() {
        House x = Check.house(JOB);
        for (int i = 0; i < 64; i++) {
            x.give(0, 3 * i, i % 3, i, 0, 0);
        }
        for (int i = 0; i < 64; i++) {
            x.give(2, 3 * i, i % 3, 0, 0, 0);
        }
        x.close(2);
        return x;
    }

    private static House running() {
        House x = Check.house(JOB);
        for (int i = 0; i < 9; i++) {
            x.give(0, 2 + 3 * i, i % 3, i, 0, 0);
            x.give(2, 2 + 3 * i, i % 3, 0, 0, 0);
        }
        x.start(2, 3, 5);
        x.turn(300);
        x.mark();
        x.turn(600);
        x.give(0, 40, 2, 1, 0, 0);
        x.give(2, 41, 2, 1, 0, 0);
        x.close(2);
        x.crash(20);
        x.turn(50);
        return x;
    }

    private static House withOpenMark() {
        House x = running();
        x.mark();
        x.turn(25);
        Check.same("a mark is open", x.told(6), 2);
        return x;
    }

    /** A row becomes 2048 rows. */
    private static House broken() {
        StringBuilder text = new StringBuilder("a = source 0 (k) lag 0; b = source 2 (k) lag 0; c = unique b by k within 5; ");
        for (char c = 'd'; c <= 'n'; c++) {
            String before = c == 'd' ? "a" : "" + (char) (c - 1);
            text.append(c).append(" = union ").append(before).append(' ').append(before).append("; ");
        }
        House x = Check.house(text + "output n;");
        x.give(0, 5, 1, 0, 0, 0);
        x.give(2, 5, 1, 0, 0, 0);
        x.give(2, 6, 1, 0, 0, 0);
        x.close(2);
        x.start(1, 8, 3);
        for (int i = 0; i < 100 && x.told(8) == 0; i++) {
            x.turn(5000);
        }
        Check.same("it is broken", x.told(8), 1);
        return x;
    }

    private static House down() {
        House x = running();
        x.mark();
        x.crash(7);
        x.turn(1000);
        Check.same("it is down", x.told(9), 1);
        Check.same("rows are visible", x.visible(0) > 0 ? 1 : 0, 1);
        return x;
    }

    private static House reopened() {
        House x = down();
        x.reopen();
        x.turn(10);
        return x;
    }

    private static House cleared() {
        House x = down();
        x.clear();
        return x;
    }

    private static House withFullTape() {
        House x = new House();
        for (int i = 0; i < 1496; i += 8) {
            x.feed(0x2020202020202020L, 8);
        }
        x.feed(0x20202020, 4);
        return x;
    }

    /** What comes of it later: the tape, the power, marks' numbers, x and all the rest that can't be asked for. */
    private static String future(House x) {
        StringBuilder answers = new StringBuilder();
        List<ToLongFunction<House>> calls = new ArrayList<>(List.of(
            h -> h.reopen(), h -> h.give(0, 60, 1, 3, 0, 0), h -> h.give(2, 61, 1, 3, 0, 0), h -> h.turn(40), h -> h.mark(), h -> h.turn(900),
            h -> h.close(2) ? 1 : 0, h -> h.turn(90), h -> h.mark(), h -> h.turn(1100), h -> h.fail(), h -> h.turn(70), h -> h.mark(), h -> h.turn(30)));
        for (ToLongFunction<House> call : calls) {
            answers.append(answer(x, call)).append(' ');
        }
        answers.append(x.picture());
        answers.append(answer(x, h -> h.feed('a', 1))).append(' ').append(answer(x, h -> h.job())).append(' ').append(answer(x, h -> h.fault()));
        return answers.toString();
    }

    private static String answer(House x, ToLongFunction<House> call) {
        try {
            return Long.toString(call.applyAsLong(x));
        } catch (RuntimeException e) {
            return e.getClass().getSimpleName();
        }
    }

    /** A call that the scene refuses, or that is not asked for here if due is null. */
    private static void refused(String what, Class<? extends RuntimeException> due, ToLongFunction<House> call) {
        if (due == null) {
            return;
        }
        House x = scene.twin();
        Check.throwsIt(sceneName + ": " + what, due, () -> call.applyAsLong(x));
        Check.same(sceneName + " behind " + what, x.picture(), pictureBefore);
        Check.same(sceneName + ", later, behind " + what, future(x), futureBefore);
    }

    private static boolean is(String... names) {
        for (String name : names) {
            if (sceneName.equals(name)) {
                return true;
            }
        }
        return false;
    }

    private static void everyCall() {
        boolean job = scene.twin().told(0) > 0;
        boolean run = scene.twin().told(1) > 0;
        boolean down = scene.twin().told(9) == 1;
        boolean broken = scene.twin().told(8) == 1;
        boolean open = scene.twin().told(6) != 0;
        feeding();
        operators(scene.twin().told(0));
        giving(job);
        starting(job, down);
        turning(!run || down, broken || open);
        power(down);
        comingOut(scene.twin().told(13), job);
        partsOfTheRun("task", scene.twin().told(1), 8, down || broken, (x, i, what) -> x.task(i, what));
        partsOfTheRun("channel", scene.twin().told(2), 5, down || broken, (x, i, what) -> x.channel(i, what));
        records(scene.twin().told(0), !run || down);
    }

    private static void feeding() {
        for (int n : new int[] {LEAST, -1, 0, 9, MOST}) {
            refused("feed(1, " + n + ")", ARGUMENT, x -> x.feed(1, n));
        }
        for (int n = 1; n <= 8 && is("one with a full tape"); n++) {
            int size = n;
            refused("feed(1, " + n + ")", ROOM, x -> x.feed(1, size));
        }
    }

    private static void operators(int count) {
        for (int operator : new int[] {LEAST, -1, count, count + 1, MOST}) {
            refused("operator(" + operator + ", 0)", INDEX, x -> x.operator(operator, 0));
            refused("operator(" + operator + ", 12)", INDEX, x -> x.operator(operator, 12));
        }
        for (int what : new int[] {LEAST, -1, 12, MOST}) {
            refused("operator(0, " + what + ")", count == 0 ? INDEX : ARGUMENT, x -> x.operator(0, what));
            refused("operator(last, " + what + ")", count == 0 ? null : ARGUMENT, x -> x.operator(count - 1, what));
        }
    }

    private static void giving(boolean job) {
        for (int source : new int[] {LEAST, -1, 4, MOST}) {
            refused("give to source " + source, INDEX, x -> x.give(source, 5, 1, 1, 1, 1));
            refused("give to source " + source + " at -1", INDEX, x -> x.give(source, -1, 1, 1, 1, 1));
            refused("close of source " + source, INDEX, x -> x.close(source) ? 1 : 0);
        }
        for (int source : new int[] {1, 3}) {
            refused("give to source " + source, STATE, x -> x.give(source, 5, 1, 1, 1, 1));
            refused("give to source " + source + " at -1", STATE, x -> x.give(source, -1, 1, 1, 1, 1));
            refused("close of source " + source, STATE, x -> x.close(source) ? 1 : 0);
        }
        boolean full = is("one with full sources");
        for (int time : new int[] {LEAST, -1, 1000001, MOST}) {
            refused("give at " + time, job ? ARGUMENT : STATE, x -> x.give(0, time, 1, 1, 1, 1));
            refused("give to a closed source at " + time, STATE, x -> x.give(2, time, 1, 1, 1, 1));
        }
        refused("give of a 65th row", !job ? STATE : full ? ROOM : null, x -> x.give(0, 5, 1, 1, 1, 1));
        refused("give to a closed source", STATE, x -> x.give(2, 5, 1, 1, 1, 1));
        refused("close", job ? null : STATE, x -> x.close(0) ? 1 : 0);
    }

    private static void starting(boolean job, boolean down) {
        Class<? extends RuntimeException> due = !job || down ? STATE : ARGUMENT;
        for (int parallel : new int[] {LEAST, -1, 0, 5, MOST}) {
            refused("start(" + parallel + ", 4, 1)", due, x -> x.start(parallel, 4, 1));
            refused("start(" + parallel + ", 0, 1)", due, x -> x.start(parallel, 0, 1));
        }
        for (int room : new int[] {LEAST, -1, 0, 9, MOST}) {
            refused("start(4, " + room + ", 1)", due, x -> x.start(4, room, 1));
        }
        refused("start(1, 1, 1)", due == STATE ? STATE : null, x -> x.start(1, 1, 1));
    }

    private static void turning(boolean noRun, boolean noMark) {
        for (int n : new int[] {LEAST, -1, 0, 5001, MOST}) {
            refused("turn(" + n + ")", noRun ? STATE : ARGUMENT, x -> x.turn(n));
        }
        for (int parallel : new int[] {LEAST, -1, 0, 5, MOST}) {
            refused("rescale(" + parallel + ")", noRun ? STATE : ARGUMENT, x -> x.rescale(parallel));
        }
        refused("turn(1)", noRun ? STATE : null, x -> x.turn(1));
        refused("turn(5000)", noRun ? STATE : null, x -> x.turn(5000));
        refused("rescale(1)", noRun ? STATE : null, x -> x.rescale(1));
        refused("rescale(4)", noRun ? STATE : null, x -> x.rescale(4));
        refused("fail()", noRun ? STATE : null, x -> x.fail());
        refused("mark()", noRun || noMark ? STATE : null, x -> x.mark());
    }

    private static void power(boolean down) {
        for (int n : new int[] {LEAST, -3, -2}) {
            refused("crash(" + n + ")", down ? STATE : ARGUMENT, x -> crash(x, n));
        }
        for (int n : new int[] {-1, 0, 1, MOST}) {
            refused("crash(" + n + ")", down ? STATE : null, x -> crash(x, n));
        }
        refused("reopen()", down ? null : STATE, x -> x.reopen());
    }

    private static long crash(House x, int n) {
        x.crash(n);
        return 0;
    }

    private static void comingOut(int outputs, boolean job) {
        for (int output : new int[] {LEAST, -1, outputs, 4, MOST}) {
            refused("visible(" + output + ")", INDEX, x -> x.visible(output));
            refused("row(" + output + ", 0, -1)", INDEX, x -> x.row(output, 0, -1));
            refused("lineage(" + output + ", 0, -1)", INDEX, x -> x.lineage(output, 0, -1));
        }
        for (int o = 0; o < outputs; o++) {
            int output = o;
            int rows = scene.twin().visible(o);
            for (int i : new int[] {LEAST, -1, rows, rows + 1, MOST}) {
                refused("row(" + o + ", " + i + ", -1)", INDEX, x -> x.row(output, i, -1));
                refused("lineage(" + o + ", " + i + ", -1)", INDEX, x -> x.lineage(output, i, -1));
            }
            if (rows > 0) {
                int operator = scene.twin().told(0) - outputs + o;
                int columns = (int) scene.twin().operator(operator, 3);
                for (int column : new int[] {LEAST, -2, columns, columns + 1, MOST}) {
                    refused("row(" + o + ", 0, " + column + ")", INDEX, x -> x.row(output, 0, column));
                }
                int members = scene.twin().lineage(o, rows - 1, -1);
                for (int k : new int[] {LEAST, -2, members, members + 1, MOST}) {
                    refused("lineage(" + o + ", " + (rows - 1) + ", " + k + ")", INDEX, x -> x.lineage(output, rows - 1, k));
                }
            }
        }
        refused("onePass()", job ? null : STATE, x -> x.onePass() ? 1 : 0);
    }

    private interface Question {
        long of(House x, int i, int what);
    }

    private static void partsOfTheRun(String name, int count, int mostWhat, boolean noState, Question question) {
        for (int i : new int[] {LEAST, -1, count, count + 1, MOST}) {
            refused(name + "(" + i + ", 0)", INDEX, x -> question.of(x, i, 0));
            refused(name + "(" + i + ", -1)", INDEX, x -> question.of(x, i, -1));
        }
        for (int what : new int[] {LEAST, -1, mostWhat + 1, MOST}) {
            refused(name + "(0, " + what + ")", count == 0 ? INDEX : noState ? STATE : ARGUMENT, x -> question.of(x, 0, what));
        }
        for (int w = 0; w <= mostWhat; w++) {
            int what = w;
            refused(name + "(last, " + what + ")", count > 0 && noState ? STATE : null, x -> question.of(x, count - 1, what));
        }
    }

    private static void records(int operators, boolean noRun) {
        for (int operator : new int[] {LEAST, -1, operators, operators + 1, MOST}) {
            refused("records(" + operator + ", 1)", INDEX, x -> x.records(operator, 1));
        }
        for (int i = 0; i < operators; i++) {
            int operator = i;
            long kind = scene.twin().operator(i, 0);
            boolean keyed = kind >= 4 && kind <= 9;
            refused("records(" + i + ", 1)", noRun ? STATE : keyed ? null : ARGUMENT, x -> x.records(operator, 1));
        }
    }

    /** Questions that are answered change nothing, either. */
    private static void questionsChangeNothing() {
        House x = scene.twin();
        for (int what : new int[] {LEAST, -2, -1, 15, 16, MOST}) {
            Check.same(sceneName + ": told(" + what + ")", x.told(what), -1);
        }
        for (int what = 0; what <= 14; what++) {
            x.told(what);
        }
        for (int i = 0; i < 3; i++) {
            answer(x, h -> h.onePass() ? 1 : 0);
            answer(x, h -> h.visible(0));
            answer(x, h -> h.row(0, 0, -1));
            answer(x, h -> h.lineage(0, 0, 0));
            answer(x, h -> h.records(3, 1));
            answer(x, h -> h.task(0, 2));
            answer(x, h -> h.channel(0, 2));
            answer(x, h -> h.operator(0, 2));
            answer(x, h -> h.fault());
        }
        Check.same(sceneName + " behind questions", x.picture(), pictureBefore);
        Check.same(sceneName + ", later, behind questions", future(x), futureBefore);
    }

    /** Of all that a call which throws could change, job() uses up the tape alone. */
    private static void jobOfAHouseThatIsDown() {
        for (String text : new String[] {"", "a", "a = source 0 (k) lag 0; output a;"}) {
            House x = down();
            String before = x.picture();
            String later = future(x.twin());
            Check.feed(x, text);
            Check.same("the tape", x.told(14), text.length());
            Check.state("job of a house that is down", () -> x.job());
            Check.same("behind job()", x.picture(), before);
            Check.same("later, behind job()", future(x), later);
        }
        House x = down();
        x.reopen();
        Check.feed(x, "a = source 0 (k) lag 0; output a;");
        Check.same("job of a house that is not down any more", x.job(), 2);
    }

    /** "With a FAULT the job stays as it was", and with it its run, its marks and all that was given. */
    private static void faultsChangeNothing() {
        String good = "p = source 3 (k v) lag 9; q = source 1 (k v) lag 0; output p; ";
        String[] faulty = {"", good + "$", good + "1234567890123456789", good + "r", good + "5", good + "r = filter z : 1;", good + "p", good + "r = source 7", good + "output p; output p; output p; output",
            good + "r = filter p : (((((((((((", good + "r = union p q;" + " output r"};
        int[] faults = {3, 1, 2, 3, 4, 5, 6, 7, 8, 9, 3};
        for (String name : new String[] {"one with a job", "one with full sources", "one that runs", "one with an open mark", "a broken one", "one that is open again"}) {
            House before = SCENES.get(name).twin();
            // the tape is used up
            Check.same(name + ": no text, or what is left of one", before.job() < 0 ? 1 : 0, 1);
            String picture = before.picture().replaceFirst("fault=\\d+ ", "");
            String later = future(before.twin());
            for (int i = 0; i < faulty.length; i++) {
                House x = before.twin();
                Check.feed(x, faulty[i]);
                Check.same(name + ": job " + faulty[i], x.job() < 0 ? 1 : 0, 1);
                Check.same(name + ": fault of " + faulty[i], x.fault(), faults[i]);
                Check.same(name + " behind " + faulty[i], x.picture().replaceFirst("fault=\\d+ ", ""), picture);
                if (faults[i] == 3) {
                    Check.same(name + ", later, behind " + faulty[i], future(x), later);
                }
            }
        }
    }
}
