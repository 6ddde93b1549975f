/** Part 3 of the document at its edges: tasks, channels, which part a row goes to, whose turn it is (promises 8, 9, 19, 20, 22). */
public final class TasksTest {
    private static final long[] KEY_OF_GROUP = keysOfGroups();

    public static void main(String[] args) {
        howManyTasks();
        parallelAndRoom();
        mostTasks();
        partsOfGroups();
        dealtInTurn();
        dealtAnew();
        dealtByATop();
        sameParts();
        whoseTurn();
        roomOfAChannel();
        firstOneFirst();
        thingByThing();
        takenRoundAndRound();
        idleTurns();
        turnsUpTo5000();
        Check.end();
    }

    private static int group(long key) {
        return (int) (key * 0x9E3779B97F4A7C15L >>> 60);
    }

    private static long[] keysOfGroups() {
        long[] keys = new long[16];
        for (int g = 0; g < 16; g++) {
            while (group(keys[g]) != g) {
                keys[g]++;
            }
        }
        return keys;
    }

    /** "Sources, tops and outputs have one task each, others PARALLEL ones" */
    private static void howManyTasks() {
        String text = "a = source 0 (k) lag 0; b = source 1 (l) lag 0; c = filter a : 1; d = map a : m = k; e = union a a;"
            + "f = fold a by k span 1 step 1 : n = count; g = fold a by k gap 1 : n = count; h = join a b by k l within 0 0;"
            + "i = look a b by k l; j = match a by k : 1 then 1 within 0; m = unique a by k within 1; n = top 1 a by k span 1; output n; output c;";
        String one = "ssppppppppptoo".replaceAll("[sto]", "1");
        for (int parallel = 1; parallel <= 4; parallel++) {
            House x = Check.house(text);
            int due = 0;
            for (char c : one.toCharArray()) {
                due += c == '1' ? 1 : parallel;
            }
            Check.same("start", x.start(parallel, 1, 1), due);
            Check.same("tasks", x.told(1), due);
            int task = 0;
            for (int o = 0; o < one.length(); o++) {
                for (int p = 0; p < (one.charAt(o) == '1' ? 1 : parallel); p++) {
                    Check.same("operator of task " + task, x.task(task, 0), o);
                    Check.same("part of task " + task, x.task(task, 1), p);
                    task++;
                }
            }
            // filter, map: one input; union: two; a KEYED one of one input, join and look of two; top 1; outputs 1 and PARALLEL
            Check.same("channels", x.told(2), parallel * (1 + 1 + 2 + 1 + 1 + 2 + 2 + 1 + 1) + 1 + 1 + parallel);
        }
    }

    /** "A RUN has PARALLEL tasks, 1 .. 4, a ROOM 1 .. 8" */
    private static void parallelAndRoom() {
        for (int parallel = 1; parallel <= 4; parallel++) {
            for (int room = 1; room <= 8; room++) {
                House x = Check.house("a = source 0 (k) lag 0; f = filter a : 1; output f;");
                Check.same("start(" + parallel + ", " + room + ")", x.start(parallel, room, 9), 2 + parallel);
                x.give(0, 4, 1, 0, 0, 0);
                Check.finish(x);
                Check.same("rows", Check.rows(x, 0, 1), "4:1<0>");
            }
        }
        for (int wrong : new int[] {0, 5, -1, 9}) {
            House x = Check.house("a = source 0 (k) lag 0; f = filter a : 1; output f;");
            Check.argument("start(" + wrong + ", 1)", () -> x.start(wrong, 1, 9));
            Check.argument("start(1, " + (wrong == 5 ? 9 : wrong) + ")", () -> x.start(1, wrong == 5 ? 9 : wrong, 9));
            x.start(1, 1, 1);
            Check.argument("rescale(" + wrong + ")", () -> x.rescale(wrong));
        }
        for (int parallel = 1; parallel <= 4; parallel++) {
            House x = Check.house("a = source 0 (k) lag 0; f = filter a : 1; output f;");
            x.start(2, 1, 1);
            x.rescale(parallel);
            Check.same("tasks", x.told(1), 2 + parallel);
        }
    }

    /** The widest jobs: fourteen filters, and joins one behind the other. */
    private static void mostTasks() {
        StringBuilder text = new StringBuilder("a = source 0 (k) lag 0; ");
        for (int i = 0; i < 14; i++) {
            text.append((char) ('b' + i)).append(" = unique ").append((char) ('a' + i)).append(" by k within 1; ");
        }
        House x = Check.house(text + "output o;");
        Check.same("tasks", x.start(4, 1, 1), 58);
        Check.same("channels", x.told(2), 4 + 13 * 16 + 4);
        Check.same("last task", x.task(57, 0), 15);
        Check.index("one more task", () -> x.task(58, 0));
        Check.same("last channel", x.channel(215, 1), 57);
        Check.index("one more channel", () -> x.channel(216, 0));
        StringBuilder pairs = new StringBuilder("a = source 0 (k) lag 0; m = map a : l = k; n = map a : k = k; ");
        for (int i = 0; i < 12; i++) {
            pairs.append("j").append((char) ('a' + i)).append(" = look n m by k l; ");
        }
        House y = Check.house(pairs + "output ja;");
        Check.same("tasks", y.start(4, 1, 1), 2 + 8 + 48);
        Check.same("channels", y.told(2), 8 + 12 * 4 * 8 + 4);
        Check.same("last channel's sender", y.channel(395, 0), 1 + 8 + 3);
    }

    /** "it belongs to the part GROUP times PARALLEL / 16", of all 16 GROUPS, in every KEYED operator and input */
    private static void partsOfGroups() {
        String[] keyed = {"fold a by k span 2 step 1 : n = count", "fold a by k gap 2 : n = count", "join a b by k l within 0 0",
            "join b a by l k within 0 0", "look a b by k l", "look b a by l k", "match a by k : 1 then 1 within 0", "unique a by k within 1"};
        for (String operator : keyed) {
            for (int parallel = 1; parallel <= 4; parallel++) {
                House x = Check.house("b = source 1 (l) lag 99; a = source 0 (v k) lag 99; o = " + operator + "; output o;");
                for (int g = 0; g < 16; g++) {
                    x.give(0, 5, 1, KEY_OF_GROUP[g], 0, 0);
                }
                x.start(parallel, 8, 7);
                x.turn(3000);
                int[] due = new int[parallel];
                for (int g = 0; g < 16; g++) {
                    due[g * parallel / 16]++;
                }
                for (int c = 0; c < x.told(2); c++) {
                    if (x.channel(c, 0) == 1) {
                        int part = (int) x.task((int) x.channel(c, 1), 1);
                        Check.same("rows to part " + part + " of " + parallel + " of " + operator, x.channel(c, 5), due[part]);
                    }
                }
                for (int p = 0; p < parallel; p++) {
                    Check.same("things that part " + p + " took", x.task(2 + p, 5), due[p]);
                }
            }
        }
        // which of them, one by one
        for (int parallel = 1; parallel <= 4; parallel++) {
            for (int g = 0; g < 16; g++) {
                House x = Check.house("a = source 0 (k) lag 99; o = unique a by k within 1; output o;");
                x.give(0, 5, KEY_OF_GROUP[g], 0, 0, 0);
                x.start(parallel, 8, 7);
                x.turn(500);
                for (int p = 0; p < parallel; p++) {
                    Check.same("group " + g + " in part " + p + " of " + parallel, x.task(1 + p, 4), p == g * parallel / 16 ? 1 : 0);
                }
            }
        }
    }

    /** "from one task to PARALLEL ones: the n-th row that this task sends to that input .. to part n % PARALLEL" */
    private static void dealtInTurn() {
        for (int parallel = 1; parallel <= 4; parallel++) {
            for (int rows = 0; rows <= 9; rows++) {
                House x = Check.house("a = source 0 (k) lag 99; u = union a a; f = filter a : 1; output f;");
                for (int i = 0; i < rows; i++) {
                    x.give(0, i, i, 0, 0, 0);
                }
                x.start(parallel, 8, 5);
                x.turn(1500);
                for (int p = 0; p < parallel; p++) {
                    int due = rows / parallel + (p < rows % parallel ? 1 : 0);
                    Check.same("part " + p + " of union, first input", x.channel(2 * p, 5), due);
                    Check.same("part " + p + " of union, second input", x.channel(2 * p + 1, 5), due);
                    Check.same("part " + p + " of filter", x.channel(2 * parallel + p, 5), due);
                }
            }
        }
    }

    /** "from 0, since the run began or began again" */
    private static void dealtAnew() {
        House x = Check.house("a = source 0 (k) lag 99; f = filter a : 1; output f;");
        x.give(0, 1, 1, 0, 0, 0);
        x.start(3, 8, 5);
        x.turn(300);
        Check.same("the first row goes to part 0", x.channel(0, 5), 1);
        x.mark();
        Check.settle(x);
        x.give(0, 2, 2, 0, 0, 0);
        x.turn(300);
        Check.same("the second row goes to part 1", x.channel(1, 5), 1);
        x.fail();
        Check.same("rows since it began again", x.channel(0, 5) + x.channel(1, 5) + x.channel(2, 5), 0);
        x.turn(300);
        Check.same("it is the first one now", x.channel(0, 5), 1);
        Check.same("part 1 has none", x.channel(1, 5), 0);
        x.rescale(2);
        x.give(0, 3, 3, 0, 0, 0);
        x.turn(300);
        Check.same("the first one", x.channel(0, 5), 1);
        Check.same("the second one", x.channel(1, 5), 1);
        x.start(3, 8, 5);
        x.turn(300);
        for (int p = 0; p < 3; p++) {
            Check.same("each part has one row from the beginning", x.channel(p, 5), 1);
        }
    }

    private static void dealtByATop() {
        House x = Check.house("a = source 0 (k) lag 0; t = top 9 a by k span 10; m = map t : r = rank; output m;");
        for (int i = 0; i < 5; i++) {
            x.give(0, 1, i, 0, 0, 0);
        }
        x.close(0);
        x.start(3, 8, 5);
        Check.settle(x);
        // a 0, t 1, m 2 3 4, output 5; channel 0 to the top, 1 2 3 to the maps
        for (int p = 0; p < 3; p++) {
            Check.same("rows of the top to part " + p, x.channel(1 + p, 5), p < 2 ? 2 : 1);
            Check.same("and from there to the output", x.channel(4 + p, 5), p < 2 ? 2 : 1);
        }
    }

    /** "of an operator that is not KEYED to that with the sender's number"; to a KEYED one's, a top's and an output's from each */
    private static void sameParts() {
        House x = Check.house("a = source 0 (k) lag 99; f = filter a : 1; g = map f : k = k; h = union g f; q = unique h by k within 1; t = top 1 h by k span 1;"
            + "output h;");
        for (int i = 0; i < 7; i++) {
            x.give(0, 5, KEY_OF_GROUP[0], 0, 0, 0);
        }
        x.start(2, 8, 5);
        x.turn(3000);
        // a 0, f 1 2, g 3 4, h 5 6, q 7 8, t 9, output 10
        long[][] due = {{0, 1, 4}, {0, 2, 3}, {1, 3, 4}, {2, 4, 3}, {3, 5, 4}, {1, 5, 4}, {4, 6, 3}, {2, 6, 3},
            {5, 7, 8}, {6, 7, 6}, {5, 8, 0}, {6, 8, 0}, {5, 9, 8}, {6, 9, 6}, {5, 10, 8}, {6, 10, 6}};
        Check.same("channels", x.told(2), due.length);
        for (int c = 0; c < due.length; c++) {
            Check.same("sender of " + c, x.channel(c, 0), due[c][0]);
            Check.same("taker of " + c, x.channel(c, 1), due[c][1]);
            Check.same("rows through " + c, x.channel(c, 5), due[c][2]);
        }
    }

    /** "x becomes x times 6364136223846793005 and 1442695040888963407 more (64 bits)", "shifted right by 33 bits (0 coming in) modulo" */
    private static void whoseTurn() {
        String[] jobs = {"a = source 0 (k) lag 999; output a;",
            "a = source 0 (k) lag 999; b = source 1 (k) lag 999; output a;",
            "a = source 0 (k) lag 999; b = source 1 (k) lag 999; c = source 2 (k) lag 999; d = source 3 (k) lag 999; output a;",
            "a = source 0 (k) lag 999; b = source 1 (k) lag 999; f = filter a : 1; output b;"};
        long[] seeds = {0, 1, -1, Long.MIN_VALUE, Long.MAX_VALUE, 1L << 33, -(1L << 33), 123456789012345678L};
        for (String job : jobs) {
            for (long seed : seeds) {
                House x = Check.house(job);
                int sources = job.split("source").length - 1;
                for (int s = 0; s < sources; s++) {
                    for (int i = 0; i < 20; i++) {
                        x.give(s, 1, 1, 0, 0, 0);
                    }
                }
                int tasks = x.start(1, 8, seed);
                long due = seed;
                long[] turns = new long[tasks];
                for (int t = 0; t < 15; t++) {
                    due = due * 6364136223846793005L + 1442695040888963407L;
                    int task = (int) ((due >>> 33) % tasks);
                    turns[task]++;
                    x.turn(1);
                    if (task < sources && turns[task] <= 8) {
                        Check.same("place of source " + task + " at turn " + t + " of seed " + seed, x.task(task, 7), turns[task]);
                    }
                }
            }
        }
    }

    /** "Each holds at most ROOM things." */
    private static void roomOfAChannel() {
        long seed = Check.seedFor(2, "AAAAAAAAAAABAABA");
        for (int room = 1; room <= 8; room++) {
            House x = Check.house("a = source 0 (k) lag 99; output a;");
            for (int i = 0; i < 20; i++) {
                x.give(0, 1, i, 0, 0, 0);
            }
            x.start(1, room, seed);
            for (int t = 1; t <= 11; t++) {
                Check.same("rows read, turn " + t + " of room " + room, x.turn(1), t <= room + 1 ? 1 : 0);
                Check.same("things in the channel", x.channel(0, 2), Math.min(t, room));
                Check.same("things in the box", x.task(0, 3), t <= room ? 0 : 1);
                Check.same("idle turns", x.told(4), 0);
            }
            Check.same("the output takes one", x.turn(1), 1);
            Check.same("things in the channel", x.channel(0, 2), room - 1);
            Check.same("the box goes, and a row is read", x.turn(1), 1);
            Check.same("things in the channel", x.channel(0, 2), room);
            Check.same("things in the box", x.task(0, 3), 1);
            Check.same("nothing goes", x.turn(1), 0);
            Check.same("rows through it", x.channel(0, 5), room + 1);
        }
    }

    /** "First things of its BOX go to their channels, the first one first, as long as its channel has room." */
    private static void firstOneFirst() {
        House x = Check.house("a = source 0 (k) lag 99; f = filter a : 1; output a;");
        for (int i = 0; i < 5; i++) {
            x.give(0, 1, i, 0, 0, 0);
        }
        // a A, f B, output C; f's channel is 0, the output's is 1
        x.start(1, 1, Check.seedFor(3, "AACABAC"));
        x.turn(1);
        Check.same("a row in each", x.channel(0, 2) + x.channel(1, 2), 2);
        x.turn(1);
        Check.same("the second row stays in the box, for each", x.task(0, 3), 2);
        Check.same("the output takes its own", x.turn(1), 1);
        Check.same("its channel has room, but what stands first has none", x.turn(1), 0);
        Check.same("box", x.task(0, 3), 2);
        Check.same("channel of the output", x.channel(1, 2), 0);
        Check.same("the filter takes its own", x.turn(1), 1);
        Check.same("both go, and the third row stays", x.turn(1), 1);
        Check.same("box", x.task(0, 3), 2);
        Check.same("channels", x.channel(0, 2) + x.channel(1, 2), 2);
        Check.same("rows through them", x.channel(0, 5) + x.channel(1, 5), 4);
    }

    /** "thing by thing as it is made; one that goes to several operators, or several tasks, in the order of channels' numbers" */
    private static void thingByThing() {
        House x = Check.house("a = source 0 (k) lag 0; f = unique a by k within 1; g = filter a : 1; output a;");
        x.give(0, 5, KEY_OF_GROUP[15], 0, 0, 0);
        // a A, f B C, g D E, output F; the row goes to C, D and F, the watermark to all of them
        x.start(2, 1, Check.seedFor(6, "ACADFA"));
        x.turn(1);
        // row to 1, 2, 4; the watermark to 0, then 1 is full
        long[] full = {1, 1, 1, 0, 1};
        for (int c = 0; c < 5; c++) {
            Check.same("channel " + c, x.channel(c, 2), full[c]);
            Check.same("rows through " + c, x.channel(c, 5), c == 0 || c == 3 ? 0 : 1);
        }
        Check.same("box", x.task(0, 3), 4);
        x.turn(2);
        // C took its row: the watermark goes to 1, and 2 is full
        Check.same("box", x.task(0, 3), 3);
        Check.same("channel 1", x.channel(1, 2), 1);
        Check.same("channel 3", x.channel(3, 2), 0);
        x.turn(3);
        Check.same("box", x.task(0, 3), 0);
        Check.same("channel 3", x.channel(3, 2), 1);
    }

    /** "from the first of its channels behind the one that it took from last (in their order, round and round; at first: from its first one on)" */
    private static void takenRoundAndRound() {
        House x = Check.house("a = source 0 (k) lag 99; b = source 1 (k) lag 99; u = union a b; output a;");
        for (int i = 0; i < 4; i++) {
            x.give(0, 1, i, 0, 0, 0);
            x.give(1, 1, i, 0, 0, 0);
        }
        // a A, b B, u C, output D
        x.start(1, 8, Check.seedFor(4, "BBAACCCCAC"));
        x.turn(4);
        int[][] left = {{1, 2}, {1, 1}, {0, 1}, {0, 0}};
        for (int[] due : left) {
            x.turn(1);
            Check.same("left of the first", x.channel(0, 2), due[0]);
            Check.same("left of the second", x.channel(1, 2), due[1]);
        }
        x.turn(2);
        Check.same("round again to the first", x.channel(0, 2), 0);
        Check.same("rows that were taken", x.task(2, 5), 5);
        // the second one alone has something at first
        House y = Check.house("a = source 0 (k) lag 99; b = source 1 (k) lag 99; u = union a b; output a;");
        y.give(0, 1, 1, 0, 0, 0);
        y.give(1, 1, 1, 0, 0, 0);
        y.give(1, 1, 2, 0, 0, 0);
        y.start(1, 8, Check.seedFor(4, "BBCAC"));
        y.turn(3);
        Check.same("taken from the second", y.channel(1, 2), 1);
        y.turn(2);
        Check.same("behind it is the first", y.channel(0, 2), 0);
        Check.same("and the second one waits", y.channel(1, 2), 1);
    }

    private static void idleTurns() {
        House x = Check.house("a = source 0 (k) lag 0; output a;");
        x.give(0, 3, 1, 0, 0, 0);
        // the output has nothing; the source reads, then has nothing; its watermark waits for room
        x.start(1, 1, Check.seedFor(2, "BBAABABAAB"));
        int[] idle = {1, 2, 2, 2, 2, 3, 3, 4, 5, 6};
        int[] took = {0, 0, 1, 0, 1, 0, 1, 0, 0, 0};
        for (int t = 0; t < idle.length; t++) {
            Check.same("taken in turn " + t, x.turn(1), took[t]);
            Check.same("idle ones behind turn " + t, x.told(4), idle[t]);
            Check.same("turns", x.told(3), t + 1);
        }
    }

    /** "n turns, 1 .. 5000" */
    private static void turnsUpTo5000() {
        House x = Check.house("a = source 0 (k) lag 0; output a;");
        x.start(1, 1, 1);
        Check.same("one turn", x.turn(1), 0);
        Check.same("turns", x.told(3), 1);
        x.turn(4999);
        Check.same("turns", x.told(3), 5000);
        x.turn(5000);
        Check.same("turns", x.told(3), 10000);
        for (int n : new int[] {0, -1, 5001, Integer.MIN_VALUE, Integer.MAX_VALUE}) {
            Check.argument(n + " turns", () -> x.turn(n));
        }
        Check.same("turns", x.told(3), 10000);
        // many at once are as many one by one
        House y = Check.house("a = source 0 (k) lag 0; f = fold a by k gap 2 : n = count; output f;");
        for (int i = 0; i < 20; i++) {
            y.give(0, i + i % 3, i % 2, 0, 0, 0);
        }
        y.start(2, 2, 12);
        House z = y.twin();
        int one = 0;
        for (int t = 0; t < 200; t++) {
            one += y.turn(1);
        }
        Check.same("200 turns", z.turn(200), one);
        Check.same("the same behind it", z.picture(), y.picture());
    }
}
