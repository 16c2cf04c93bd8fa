import java.io.IOException;
import java.nio.file.Files;
import java.nio.file.Path;
import java.util.ArrayList;
import java.util.BitSet;
import java.util.HashMap;
import java.util.List;
import java.util.Map;
import java.util.regex.Matcher;
import java.util.regex.Pattern;

/**
 * The document's own words, promise by promise (0: its Terms), and which of them a test quotes, so
 * that a sentence that names a boundary can't be left without a test.
 */
final class Document {
    private static final Pattern BOUNDARY = Pattern.compile("\\d+ to \\d+|\\d+ at most|at most"
            + "|at least|at first|no farther|no more|or more|more VAGUE|fewest|least|alone|latest"
            + "|above 99999|above 40|below 0|BEYOND|FULL|NONE|STATE|MISSING|SIZE|KIND:|\\bcut\\b"
            + "|empty|nothing|modulo|rest by|leaves|lowest|an int|as far as|as long as|held within"
            + "|AT 15|without|no SAYINGS|no SHIPS|no image|too early|first byte|begins no|another"
            + "|It ends|as they all were|takes none back|is odd|9th|7th|if there is|isn't");

    private final Map<Integer, String> sections = new HashMap<>();
    private final Map<Integer, BitSet> quoted = new HashMap<>();

    Document(Path file) throws IOException {
        Matcher m = Pattern.compile("(?s)\n## (Terms|Promise (\\d+))[^\n]*\n(.*?)(?=\n## )")
                .matcher(Files.readString(file));
        while (m.find()) {
            int promise = m.group(2) == null ? 0 : Integer.parseInt(m.group(2));
            sections.put(promise, m.group(3));
            quoted.put(promise, new BitSet());
        }
    }

    int promises() {
        return sections.size() - 1;
    }

    /** Why these words can't be quoted of that promise, or null if they can. */
    String quote(int promise, String words) {
        String section = sections.getOrDefault(promise, "");
        int at = section.indexOf(words);
        if (at < 0) {
            return "promise " + promise + " doesn't say '" + words + "'";
        }
        if (section.indexOf(words, at + 1) >= 0) {
            return "promise " + promise + " says '" + words + "' more than once";
        }
        quoted.get(promise).set(at, at + words.length());
        return null;
    }

    List<String> boundariesNotQuoted() {
        List<String> left = new ArrayList<>();
        for (Map.Entry<Integer, String> section : sections.entrySet()) {
            String words = section.getValue();
            BitSet covered = quoted.get(section.getKey());
            Matcher m = BOUNDARY.matcher(words);
            while (m.find()) {
                if (covered.nextClearBit(m.start()) < m.end()) {
                    left.add("promise " + section.getKey() + ": '.."
                            + words.substring(Math.max(0, m.start() - 30),
                                    Math.min(words.length(), m.end() + 30)).replace('\n', ' ')
                            + "..' has no test");
                }
            }
        }
        return left;
    }
}
