import java.io.IOException;
import java.nio.file.DirectoryStream;
import java.nio.file.Files;
import java.nio.file.Path;

/**
 * Runs of calls under src/test/runs, each with the answers of another model of the document: of other code, but by the
 * same hand, so it would share a misreading. A line is a call, and behind = its answer, or the exception that it throws.
 */
public final class ReplayTest {
    public static void main(String[] args) throws IOException {
        int files = 0;
        try (DirectoryStream<Path> runs = Files.newDirectoryStream(Path.of("src/test/runs"), "*.txt")) {
            for (Path run : runs) {
                replay(run);
                files++;
            }
        }
        Check.same("there are runs", files > 0 ? 1 : 0, 1);
        Check.end();
    }

    private static void replay(Path run) throws IOException {
        House x = new House();
        int line = 0;
        for (String text : Files.readAllLines(run)) {
            line++;
            if (!text.startsWith("#")) {
                String[] sides = text.split(" = ");
                Check.same(run.getFileName() + ":" + line + ": " + sides[0], answer(x, sides[0].split(" ")), sides[1]);
            }
        }
    }

    private static String answer(House x, String[] words) {
        long[] n = new long[7];
        for (int i = 1; i < words.length; i++) {
            n[i] = Long.parseLong(words[i]);
        }
        try {
            return Long.toString(call(x, words[0], n, (int) n[1], (int) n[2]));
        } catch (RuntimeException e) {
            return e.getClass().getSimpleName();
        }
    }

    private static long call(House x, String name, long[] n, int first, int second) {
        switch (name) {
            case "feed": return x.feed(n[1], second);
            case "job": return x.job();
            case "fault": return x.fault();
            case "operator": return x.operator(first, second);
            case "give": return x.give(first, second, n[3], n[4], n[5], n[6]);
            case "close": return x.close(first) ? 1 : 0;
            case "start": return x.start(first, second, n[3]);
            case "turn": return x.turn(first);
            case "mark": return x.mark();
            case "fail": return x.fail();
            case "rescale": return x.rescale(first);
            case "crash":
                x.crash(first);
                return 0;
            case "reopen": return x.reopen();
            case "visible": return x.visible(first);
            case "row": return x.row(first, second, (int) n[3]);
            case "lineage": return x.lineage(first, second, (int) n[3]);
            case "onePass": return x.onePass() ? 1 : 0;
            case "task": return x.task(first, second);
            case "channel": return x.channel(first, second);
            case "records": return x.records(first, n[2]);
            case "told": return x.told(first);
            default: throw new Error(name);
        }
    }
}
