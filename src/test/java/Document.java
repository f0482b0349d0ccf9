import java.io.IOException;
import java.io.UncheckedIOException;
import java.nio.file.Files;
import java.nio.file.Path;
import java.util.ArrayList;
import java.util.BitSet;
import java.util.LinkedHashMap;
import java.util.List;
import java.util.Map;
import java.util.regex.Matcher;
import java.util.regex.Pattern;

/** The document by its parts, and which of its words tests stand for. */
final class Document {
    /** What names a boundary in a sentence: each one must lie in words that a test stands for. */
    private static final Pattern EDGE = Pattern.compile("[0-9]|\\.\\.|at (most|least|first)|BAD|STATE|FULL|NONE|\\bNO\\b"
        + "|[Bb]eyond|above 99|lost|none|[Nn]othing|nobody|\\bno\\b|never|\\bever\\b|empty|gone|[Rr]efused|too\\b|first|last"
        + "|least|greatest|fewest|can't|can not|FALLS?|ahead|behind the|within|left over|whole number|how (many|much)");
    private static final String[] WITHOUT_EDGES = {"The public face", "Not promised"};

    private final Map<String, String> parts = new LinkedHashMap<>();
    private final Map<String, BitSet> stoodFor = new LinkedHashMap<>();

    private Document(String all) {
        String[] pieces = all.split("(?m)^## ");
        for (int i = 1; i < pieces.length; i++) {
            String[] piece = pieces[i].split("\n", 2);
            String name = piece[0].replaceAll(":.*", "");
            String text = piece[1].replaceAll("(?m)^```.*$", "").replaceAll("\\s+", " ").replaceAll("=== [2-4]", "");
            // What stands ahead of section 1 only sums the sections up.
            parts.put(name, name.equals("What it is") ? text.replaceFirst("^.*?========", "") : text);
            stoodFor.put(name, new BitSet());
        }
    }

    static Document read() {
        try {
            return new Document(Files.readString(Path.of("../shared/DOC.md")));
        } catch (IOException e) {
            throw new UncheckedIOException("../shared/DOC.md can't be read: run the tests from the project's root", e);
        }
    }

    /** Whether a part of the document says these words, and once alone, so that it is clear which they are. */
    boolean says(String part, String words) {
        String text = parts.getOrDefault(part, "");
        int at = text.indexOf(words);
        if (at < 0 || text.indexOf(words, at + 1) >= 0) {
            return false;
        }
        stoodFor.get(part).set(at, at + words.length());
        return true;
    }

    /** The boundaries that the document names outside all the words that says() was asked for. */
    List<String> leftOut() {
        List<String> left = new ArrayList<>();
        for (Map.Entry<String, String> part : parts.entrySet()) {
            if (List.of(WITHOUT_EDGES).contains(part.getKey())) {
                continue;
            }
            String text = part.getValue();
            Matcher edge = EDGE.matcher(text);
            while (edge.find()) {
                if (stoodFor.get(part.getKey()).nextClearBit(edge.start()) < edge.end()) {
                    int from = Math.max(0, edge.start() - 30);
                    left.add(part.getKey() + ": .." + text.substring(from, Math.min(text.length(), edge.end() + 30)) + "..");
                }
            }
        }
        return left;
    }
}
