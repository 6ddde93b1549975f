/**
 * What was before leaves nothing behind: "there is no run, no mark, nothing is given, closed, visible then" (promise 3),
 * "A RUN begins, from the beginning" (promise 8), "All is as at first" (promise 23).
 */
public final class LeftoversTest {
    private static final String[] JOBS = {
        "a = source 0 (k v) lag 3; b = source 1 (l w) lag 3; j = join a b by k l within - 4 4; m = map j : x = k, y = v + w, z = time; u = unique m by x within 2; output u; output m;",
        "d = source 3 (w x y z) lag 0; c = source 1 (k) lag 9; f = fold d by w span 8 step 1 : n = count, s = sum x, t = most y, r = least z; g = filter f : s - 3; output g; output c; output f;",
        "a = source 0 (k) lag 2; f = filter a : 1 / (k - 1); o = fold f by k gap 4 : n = count; t = top 2 o by n span 9; output t;",
        "c = source 2 (l) lag 1; a = source 0 (k v) lag 1; o = look a c by k l; p = match a by k : v then v - 1 then v - 2 within 9; u = unique p by k within 3; output o; output u;",
        "b = source 1 (k v) lag 0; a = source 0 (k v) lag 5; u = union a b; w = union u b; m = match w by v : k then k within 4; t = top 9 w by k span 3; output m; output t; output w; output a;"};

    public static void main(String[] args) {
        for (int first = 0; first < JOBS.length; first++) {
            for (int second = 0; second < JOBS.length; second++) {
                for (int how = 0; how < 5; how++) {
                    behind(first, second, how);
                }
            }
        }
        runsOfOneJob();
        Check.end();
    }

    private static void behind(int first, int second, int how) {
        String what = "job " + second + " behind job " + first + ", kind " + how;
        House x = new House();
        feed(x, JOBS[first]);
        give(x, first);
        dirty(x, first + how);
        feed(x, JOBS[second]);
        give(x, second + 1);
        dirty(x, second + how);
        if (x.told(9) == 1) {
            x.reopen();
        }
        if (how == 1) {
            x.clear();
        }
        if (how == 2) {
            Check.feed(x, JOBS[first].substring(0, JOBS[first].length() - 1));
            Check.same(what + ": a fault", x.job() < 0 ? 1 : 0, 1);
        }
        feed(x, JOBS[second]);
        x.crash(-1);
        House fresh = new House();
        feed(fresh, JOBS[second]);
        same(what + ", just read", x, fresh);
        give(x, second);
        give(fresh, second);
        same(what + ", given", x, fresh);
        run(x, how);
        run(fresh, how);
        same(what + ", run", x, fresh);
    }

    private static void feed(House x, String text) {
        Check.feed(x, text);
        if (x.job() < 0) {
            Check.same("fault of " + text, x.fault(), 0);
        }
    }

    private static void same(String what, House x, House y) {
        Check.same(what, x.picture(), y.picture());
    }

    /** Rows to all sources that there are, of times and numbers that the kind says. */
    private static void give(House x, int kind) {
        for (int s = 0; s < 4; s++) {
            try {
                for (int i = 0; i < 9; i++) {
                    x.give(s, 3 + i + (i * (kind + 3)) % 4, i % (2 + kind % 2), (i + kind) % 3, i % 4, kind - i);
                }
            } catch (IllegalStateException e) {
                continue; // the job has not that source
            }
        }
    }

    /** A run that is left somewhere: with an open mark, behind failures, down, closed or not. */
    private static void dirty(House x, int kind) {
        x.start(1 + kind % 4, 1 + kind % 8, 31 * kind);
        x.turn(150);
        x.mark();
        x.turn(250 + 50 * kind);
        if (kind % 3 == 0) {
            x.rescale(1 + (kind + 1) % 4);
        }
        if (kind % 2 == 0) {
            Check.closeAll(x);
        }
        x.turn(120);
        if (x.told(6) == 0) {
            x.mark();
        }
        if (kind % 4 == 1) {
            x.crash(4);
        }
        x.turn(40);
        if (x.told(9) == 1) {
            x.reopen();
        }
    }

    private static void run(House x, int kind) {
        x.start(1 + kind % 3, 3, 1234 + kind);
        x.turn(200);
        x.mark();
        x.turn(300);
        Check.closeAll(x);
        x.turn(500);
        if (x.told(6) == 0) {
            x.mark();
        }
        x.turn(400);
    }

    /** The same job, run by run: each is as the first one of a new object. */
    private static void runsOfOneJob() {
        for (int job = 0; job < JOBS.length; job++) {
            for (int kind = 0; kind < 12; kind++) {
                House x = new House();
                feed(x, JOBS[job]);
                give(x, job);
                House fresh = x.twin();
                dirty(x, kind);
                Check.closeAll(x);
                x.crash(-1);
                Check.closeAll(fresh);
                run(x, kind);
                run(fresh, kind);
                same("run of job " + job + " behind one of kind " + kind, x, fresh);
            }
        }
    }
}
