import java.io.IOException;
import java.nio.file.Files;
import java.nio.file.Path;
import java.util.ArrayList;
import java.util.HashMap;
import java.util.LinkedHashMap;
import java.util.List;
import java.util.Map;
import java.util.regex.Matcher;
import java.util.regex.Pattern;

/** Names each edge test by the sentence of the document that it holds, and tells sentences that no test names. */
final class Edges {
    static final String ABOUT = "What it is";
    static final String TERMS = "Terms";
    static final String CASES = "1 CASES";
    static final String HEARINGS = "2 A HEARING";
    private static final int PROMISES = 46;
    /** What a boundary case is told by. */
    private static final Pattern BOUNDARY = Pattern.compile("\\b(BAD|STATE|FULL|NONE|FAULT|\\d+ to \\d+|at most|at least|"
            + "at first|too|alike|whatever|above|below|already|empty|refuse[sd]|least|first|lowest|leaves|aside)\\b");

    private final Due due;
    private final Map<String, String> parts = new LinkedHashMap<>();
    private final Map<String, List<String>> told = new HashMap<>();

    Edges(Due due, Path document) throws IOException {
        this.due = due;
        String all = Files.readString(document).replaceAll("\\s+", " ");
        parts.put(ABOUT, between(all, "An object is used", "## The public face"));
        parts.put(TERMS, between(all, "## Terms", "======== 1"));
        parts.put(CASES, between(all, "======== 1 CASES", "======== 2"));
        parts.put(HEARINGS, between(all, "======== 2 A HEARING", "Ahead of the calls"));
        for (int n = 1; n <= PROMISES; n++) {
            String next = n < PROMISES ? "## Promise " + (n + 1) + ":" : "## Not promised";
            parts.put(name(n), between(all, "## Promise " + n + ":", next).replaceFirst("^.*?`[^`]*`: ", ""));
        }
    }

    private static String name(int promise) {
        return "promise " + promise;
    }

    private String between(String all, String head, String tail) {
        int from = all.indexOf(head);
        int to = all.indexOf(tail, Math.max(0, from));
        due.holds("the document has " + head, from >= 0 && to > from);
        return from >= 0 && to > from ? all.substring(from, to) : "";
    }

    void of(int promise, String sentence) {
        of(name(promise), sentence);
    }

    /** What comes next is held to this sentence of this part. */
    void of(String part, String sentence) {
        due.group(part + " \"" + sentence + "\"");
        due.holds("the document says so", parts.getOrDefault(part, "").contains(sentence));
        told.computeIfAbsent(part, p -> new ArrayList<>()).add(sentence);
    }

    /** To be called when all have run. */
    void allAreHeld() {
        due.group("edges");
        for (Map.Entry<String, String> part : parts.entrySet()) {
            String left = part.getValue();
            for (String sentence : told.getOrDefault(part.getKey(), List.of())) {
                left = left.replace(sentence, " | ");
            }
            Matcher boundary = BOUNDARY.matcher(left);
            if (boundary.find()) {
                due.holds("no edge of " + part.getKey() + " is left: " + left, false);
            }
        }
    }
}
