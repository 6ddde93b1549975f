/** Promises 1, 6, 7, 23: a new object, give, close, clear. */
public final class GivenTest {
    public static void main(String[] args) {
        isNew("a new object", new House());
        giving();
        closing();
        clearing();
        Check.end();
    }

    private static void isNew(String what, House x) {
        for (int i = 0; i <= 14; i++) {
            Check.same(what + ": told(" + i + ")", x.told(i), 0);
        }
        Check.same(what + ": told(-1)", x.told(-1), StreamHouse.NONE);
        Check.same(what + ": told(15)", x.told(15), StreamHouse.NONE);
        Check.same(what + ": fault", x.fault(), 0);
        Check.index(what + ": operator", () -> x.operator(0, 0));
        Check.state(what + ": give", () -> x.give(0, 0, 0, 0, 0, 0));
        Check.index(what + ": give", () -> x.give(4, 0, 0, 0, 0, 0));
        Check.state(what + ": close", () -> x.close(0) ? 1 : 0);
        Check.state(what + ": start", () -> x.start(1, 1, 1));
        Check.state(what + ": start", () -> x.start(0, 1, 1));
        Check.state(what + ": turn", () -> x.turn(1));
        Check.state(what + ": turn", () -> x.turn(0));
        Check.state(what + ": mark", () -> x.mark());
        Check.state(what + ": fail", () -> x.fail());
        Check.state(what + ": rescale", () -> x.rescale(9));
        Check.state(what + ": reopen", () -> x.reopen());
        Check.index(what + ": visible", () -> x.visible(0));
        Check.index(what + ": row", () -> x.row(0, 0, -1));
        Check.index(what + ": lineage", () -> x.lineage(0, 0, -1));
        Check.state(what + ": onePass", () -> x.onePass() ? 1 : 0);
        Check.index(what + ": task", () -> x.task(0, 0));
        Check.index(what + ": channel", () -> x.channel(0, 0));
        Check.index(what + ": records", () -> x.records(0, 0));
        Check.same(what + ": NONE", StreamHouse.NONE, -1);
    }

    private static void giving() {
        House x = Check.house("a = source 2 (k v) lag 0; b = source 0 (k v w x) lag 0; output a; output b;");
        Check.same("a place", x.give(2, 0, 7, 8, 9, 10), 0);
        Check.same("a place", x.give(2, 1000000, 8, 9, 10, 11), 1);
        Check.same("a place of another source", x.give(0, 1, 1, 2, 3, 4), 0);
        Check.index("source 4", () -> x.give(4, -1, 0, 0, 0, 0));
        Check.index("source -1", () -> x.give(-1, 0, 0, 0, 0, 0));
        Check.state("source 1, which the job has not", () -> x.give(1, -1, 0, 0, 0, 0));
        Check.argument("time -1", () -> x.give(2, -1, 0, 0, 0, 0));
        Check.argument("time 1000001", () -> x.give(2, 1000001, 0, 0, 0, 0));
        for (int i = 2; i < 64; i++) {
            Check.same("a place", x.give(2, 1000000, i, 0, 0, 0), i);
        }
        Check.room("a 65th row", () -> x.give(2, 5, 0, 0, 0, 0));
        Check.argument("a 65th row at time -1", () -> x.give(2, -1, 0, 0, 0, 0));
        Check.same("another source has room", x.give(0, 2, 5, 6, 7, 8), 1);
        x.close(2);
        Check.state("closed", () -> x.give(2, -1, 0, 0, 0, 0));
        x.start(2, 2, 2);
        Check.finish(x);
        Check.same("rows of a", x.visible(0), 64);
        Check.same("rows of b", Check.rows(x, 1, 4), "1:1,2,3,4<0> 2:5,6,7,8<1>");
        Check.same("first row of a", x.row(0, 0, 0), 7);
        Check.same("first row of a", x.row(0, 0, 1), 8);
        Check.index("a has no third column", () -> x.row(0, 0, 2));
    }

    private static void closing() {
        House x = Check.house("a = source 2 (k) lag 0; output a;");
        Check.index("source 4", () -> x.close(4) ? 1 : 0);
        Check.index("source -1", () -> x.close(-1) ? 1 : 0);
        Check.state("source 0, which the job has not", () -> x.close(0) ? 1 : 0);
        Check.same("it was not closed", x.close(2) ? 1 : 0, 1);
        Check.same("it was", x.close(2) ? 1 : 0, 0);
        x.start(1, 1, 5);
        Check.settle(x);
        Check.same("its watermark is endless", x.task(0, 2), 1L << 40);
    }

    private static void clearing() {
        House x = Check.house("a = source 0 (k) lag 0; output a;");
        x.give(0, 3, 1, 0, 0, 0);
        x.start(2, 2, 2);
        Check.finish(x);
        Check.same("rows", x.visible(0), 1);
        x.mark();
        x.crash(0);
        x.turn(100);
        Check.same("down", x.told(9), 1);
        x.feed(1, 1);
        x.clear();
        isNew("a cleared one", x);
        Check.feed(x, "a = source 0 (k) lag 0;");
        x.job();
        Check.same("a fault", x.fault(), 3);
        x.clear();
        isNew("a cleared one", x);
        Check.feed(x, "a = source 0 (k) lag 0; output a;");
        Check.same("job", x.job(), 2);
        x.crash(1);
        x.clear();
        Check.feed(x, "a = source 0 (k) lag 0; output a;");
        x.job();
        Check.same("nothing was given", x.give(0, 3, 1, 0, 0, 0), 0);
        x.start(1, 1, 1);
        Check.finish(x);
        Check.same("no failure is to come", x.visible(0), 1);
        Check.same("first mark", x.told(5), 1);
    }
}
