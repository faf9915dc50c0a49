import java.io.IOException;
import java.io.UncheckedIOException;
import java.nio.file.Files;
import java.nio.file.Path;
import java.util.HashMap;
import java.util.HashSet;
import java.util.Map;
import java.util.Set;

/**
 * Tests of the document's sentences, one test each. A test names the place and the words that it holds the drawer
 * to, and the document must have these words there, so that no test outlives its sentence.
 */
final class Sentences {
    private static final Path DOCUMENT = Path.of("../shared/DOC.md");

    private final Check check;
    private final Map<String, String> sections = new HashMap<>();
    private final Set<String> tested = new HashSet<>();
    private final Set<String> places = new HashSet<>();
    private String sentenceNow = "";
    private int asked;

    Sentences(String name) {
        check = new Check(name);
        readDocument();
    }

    private void readDocument() {
        String document;
        try {
            document = Files.readString(DOCUMENT);
        } catch (IOException e) {
            throw new UncheckedIOException(e);
        }
        for (String section : document.split("(?m)^## ")) {
            String title = section.split("[:\\n]", 2)[0];
            sections.put(title, squeezed(section));
        }
    }

    private static String squeezed(String words) {
        return words.replaceAll("\\s+", " ");
    }

    /** Where is the title of a section, as "Terms" or "Promise n". */
    void holds(String where, String sentence, Runnable test) {
        sentenceNow = where + ", \"" + sentence + "\": ";
        String section = sections.getOrDefault(where, "");
        check.due(sentenceNow + "stands there", section.contains(squeezed(sentence)), true);
        check.due(sentenceNow + "has one test", tested.add(where + sentence), true);
        places.add(where);
        asked = 0;
        test.run();
        check.due(sentenceNow + "its test asks something", asked > 0, true);
    }

    void due(String call, long got, long want) {
        asked++;
        check.due(sentenceNow + call, got, want);
    }

    void due(String call, boolean got, boolean want) {
        due(call, got ? 1 : 0, want ? 1 : 0);
    }

    /** For calls that are refused, or that only look: all that can be seen is the same behind them. */
    void nothingHappens(HopeDrawer x, Runnable calls) {
        String before = seen(x);
        calls.run();
        String behind = seen(x);
        asked++;
        check.due(sentenceNow + "nothing happens: " + before + " became " + behind, before.equals(behind), true);
    }

    private static String seen(HopeDrawer x) {
        StringBuilder seen = new StringBuilder();
        for (int what = 0; what <= 15; what++) {
            seen.append(x.count(what)).append(' ');
        }
        for (int letter = 0; letter < x.count(0); letter++) {
            for (int what = 0; what <= 7; what++) {
                seen.append(what == 0 ? "/ " : "").append(x.letter(letter, what)).append(' ');
            }
        }
        for (int reader = 0; reader < x.count(1); reader++) {
            for (int what = 0; what <= 4; what++) {
                seen.append(what == 0 ? "| " : "").append(x.reader(reader, what)).append(' ');
            }
        }
        return seen.append("told ").append(x.which(x.count(10), 1)).toString();
    }

    /** Each promise of these ranges, first and last by turns, must have had a test. */
    void end(int... ranges) {
        for (int i = 0; i + 1 < ranges.length; i += 2) {
            for (int promise = ranges[i]; promise <= ranges[i + 1]; promise++) {
                check.due("promise " + promise + " has a test", places.contains("Promise " + promise), true);
            }
        }
        check.end();
    }
}
