import java.io.IOException;
import java.nio.file.Files;
import java.nio.file.Path;
import java.util.ArrayList;
import java.util.List;
import java.util.regex.Matcher;
import java.util.regex.Pattern;

/** The document's words: which of them a test quotes, and which boundary case none quotes. */
final class Sentences {
    private static final Path DOC = Path.of("../shared/DOC.md");
    private static final int PROMISES = 25;
    /** Words by which the document names a boundary case. */
    private static final Pattern BOUNDARY = Pattern.compile(
        "UNKNOWN|OUTSIDE|STATE|FULL|NONE|\\bat most\\b|\\bat least\\b|\\b[Aa]t first\\b|\\bone to six\\b|\\d to \\d|from 0|rounded"
        + "|empty|wrapping|above|no SLOPE|No SLOPE|if there is none|\\banother\\b|can't|\\bif they can\\b|\\bif there is such\\b|right behind"
        + "|like ones|the first by numbers|not TRODDEN|the latest|is gone|are gone|are none");

    /** What is ahead of the promises (0), then each promise by its number. */
    private final List<String> sections = new ArrayList<>();
    private final List<boolean[]> quoted = new ArrayList<>();

    Sentences() throws IOException {
        String text = Files.readString(DOC).replaceAll("(?s)```java.*?```", "");
        text = text.substring(0, text.indexOf("## Not promised"));
        for (String section : text.split("## Promise \\d+: ")) {
            sections.add(section.replaceAll("\\s+", " "));
            quoted.add(new boolean[sections.get(sections.size() - 1).length()]);
        }
    }

    /** Whether the document has these words there; they are tested then. */
    boolean quote(int promise, String words) {
        int at = promise < sections.size() ? sections.get(promise).indexOf(words) : -1;
        if (at < 0) return false;
        for (int i = 0; i < words.length(); i++) quoted.get(promise)[at + i] = true;
        return true;
    }

    void checkAllBoundariesQuoted(Check check) {
        check.due("the document has so many promises", sections.size() - 1, PROMISES);
        for (int promise = 0; promise < sections.size(); promise++) {
            Matcher boundary = BOUNDARY.matcher(sections.get(promise));
            while (boundary.find()) checkQuoted(check, promise, boundary.start(), boundary.end());
        }
    }

    private void checkQuoted(Check check, int promise, int from, int to) {
        boolean all = true;
        for (int i = from; i < to; i++) all &= quoted.get(promise)[i];
        String section = sections.get(promise);
        String around = section.substring(Math.max(0, from - 30), Math.min(section.length(), to + 30));
        check.holds("promise " + promise + " has a boundary case without a test: .." + around + "..", all);
    }
}
