import java.io.IOException;
import java.nio.file.Files;
import java.nio.file.Path;
import java.util.List;
import java.util.regex.Matcher;
import java.util.regex.Pattern;

/** The example of README.md: each line of it whose comment begins with a number answers that number. */
public final class ReadmeTest {
    private static final Pattern TOLD = Pattern.compile("^slab\\.(\\w+\\(.*\\)); +// (-?\\d+):.*");
    private static final Checks CHECKS = new Checks();
    private static List<String> lines;
    private static int next;

    public static void main(String[] args) throws IOException {
        lines = Files.readAllLines(Path.of("README.md"));
        IceSlab slab = new IceSlab();
        String text = "h3;f5290;f2571";
        String told = "String text = \"" + text + "\";";
        CHECKS.due("README has its text", lines.stream().anyMatch(line -> line.startsWith(told)) ? 1 : 0, 1);
        Checks.textRow(slab, 0, 0, text);
        line("stall(0, 0, 0, text.length())", slab.stall(0, 0, 0, text.length()));
        line("write(1, 1, 6)", slab.write(1, 1, 6));
        line("buyer(1, 0, 14, 0)", slab.buyer(1, 0, 14, 0));
        line("buyer(2, 1, 9, 0)", slab.buyer(2, 1, 9, 0));
        line("day(0)", slab.day(0));
        line("day(3)", slab.day(3));
        line("bought(1, 1)", slab.bought(1, 1));
        line("bought(1, 3)", slab.bought(1, 3));
        line("best(0, 0, 0)", slab.best(0, 0, 0));
        line("fetch(-1)", slab.fetch(-1));
        line("fetch(0)", slab.fetch(0));
        line("write(1, 3, 6)", slab.write(1, 3, 6));
        line("put(1, 0, 7)", slab.put(1, 0, 7));
        line("fault()", slab.fault());
        CHECKS.due("lines of the example that this test leaves out", nextTold() == null ? 0 : 1, 0);
        CHECKS.end("ReadmeTest");
    }

    /** The next line of the example that tells an answer is this call, and tells what it answered. */
    private static void line(String call, long got) {
        Matcher told = nextTold();
        boolean same = told != null && told.group(1).equals(call);
        CHECKS.due("README goes on with " + call, same ? 1 : 0, 1);
        if (same) {
            CHECKS.due("README's " + call, got, Long.parseLong(told.group(2)));
        }
    }

    private static Matcher nextTold() {
        while (next < lines.size()) {
            Matcher told = TOLD.matcher(lines.get(next++));
            if (told.matches()) {
                return told;
            }
        }
        return null;
    }
}
