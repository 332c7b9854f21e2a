import java.nio.file.Files;
import java.nio.file.Path;

/** The example of README.md: its calls, in its order, and the answers that it tells. */
final class ReadmeTest extends Checks {
    private static String readme = "";
    private static int place = 0;

    public static void main(String[] args) throws Exception {
        readme = Files.readString(Path.of("README.md"));
        Slewyard site = new Slewyard();
        told("site.yard(10, 10)", site.yard(10, 10));
        told("site.crane(55, 4, 3, 60, 2)", site.crane(55, 4, 3, 60, 2));
        told("site.load(56, 20)", site.load(56, 20));
        told("site.step(0, 5)", site.step(0, 5));
        told("site.step(0, 5)", site.step(0, 5));
        told("site.hang(0)", site.hang(0));
        told("site.would(0, 0)", site.would(0, 0));
        told("site.step(0, 4)", site.step(0, 4));
        told("site.would(0, 0)", site.would(0, 0));
        told("site.way(0, 66)", site.way(0, 66));
        told("site.drawn(5)", site.drawn(5));
        is(-1, readme.indexOf("site.", place));
        end("ReadmeTest");
    }

    /** The next call in the README has to be this one, with this answer behind its "// ". */
    private static void told(String call, Object answer) {
        int start = readme.indexOf("site.", place);
        int lineEnd = readme.indexOf('\n', Math.max(start, 0));
        String line = start < 0 || lineEnd < 0 ? "" : readme.substring(start, lineEnd);
        is(true, line.startsWith(call + ";"));
        String comment = line.substring(line.indexOf("// ") + 3);
        is(answer, comment.split(":")[0]);
        place = Math.max(start, 0) + line.length();
    }
}
