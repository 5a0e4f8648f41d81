import java.io.IOException;
import java.nio.file.Files;
import java.nio.file.Path;
import java.util.regex.Pattern;

/** The document, so that a test can say which of its words it holds the class to; section 0 is all ahead of promise 1. */
final class Doc {
    private static final int PROMISES = 42;
    /** A part of a sentence with one of these names a bound, an end, or what is refused. */
    private static final Pattern EDGE = Pattern.compile("\\d|NONE|HIDDEN|False|NoSuch|\\b(most|least|latest|lowest|greatest|first|last|"
        + "none|nothing|no such|empty|EMPTY|above|below|within|refused|alone|less|stays?|gone|instead|round)\\b");
    private static final String[] SECTIONS = new String[PROMISES + 1];
    private static final boolean[][] QUOTED = new boolean[PROMISES + 1][];
    private static boolean there = false;
    private static String quote = "";
    private static int lookedAhead = 0;
    private static int quotes = 0;

    private Doc() {
    }

    static void open(String project) throws IOException {
        Path doc = Path.of(project, "..", "shared", "DOC.md");
        there = Files.exists(doc);
        if (!there) {
            System.out.println("no " + doc + ": the answers are looked at, the quotes are not");
            return;
        }
        String all = Files.readString(doc).replaceAll("```(text|java)?", " ").replaceAll("\\s+", " ");
        int from = 0;
        for (int p = 0; p <= PROMISES; p++) {
            int to = all.indexOf(p < PROMISES ? "## Promise " + (p + 1) + ":" : "## Not promised");
            SECTIONS[p] = all.substring(from, to);
            QUOTED[p] = new boolean[to - from];
            from = to;
        }
    }

    /** The answers looked at from here on are those that these words ask for. */
    static void says(int section, String words) {
        closeQuote();
        quote = (section == 0 ? "Terms" : "Promise " + section) + ", \"" + words + "\"";
        quotes++;
        if (!there) {
            return;
        }
        int at = SECTIONS[section].indexOf(words);
        Check.due(quote + " stands in the document", at >= 0, true);
        for (int i = 0; at >= 0 && i < words.length(); i++) {
            QUOTED[section][at + i] = true;
        }
    }

    static void due(String what, long got, long want) {
        Check.due(quote + ": " + what, got, want);
    }

    static void due(String what, boolean got, boolean want) {
        Check.due(quote + ": " + what, got, want);
    }

    private static void closeQuote() {
        // The first of the answers looked at is that the words stand in the document.
        if (quotes > 0) {
            Check.due(quote + " has a test", Check.looked() > lookedAhead + (there ? 1 : 0), true);
        }
        lookedAhead = Check.looked();
    }

    /** Every part of a sentence that names an edge was quoted. */
    static void close() {
        closeQuote();
        for (int p = 0; there && p <= PROMISES; p++) {
            int from = p == 0 ? SECTIONS[0].indexOf("## Terms") : 0;
            for (int to = from + 1; to <= SECTIONS[p].length(); to++) {
                if (to == SECTIONS[p].length() || SECTIONS[p].charAt(to) == ' ' && ".;:".indexOf(SECTIONS[p].charAt(to - 1)) >= 0) {
                    lookAtPart(p, from, to);
                    from = to;
                }
            }
        }
        System.out.println(quotes + " sentences of the document held to");
    }

    private static void lookAtPart(int section, int from, int to) {
        String part = SECTIONS[section].substring(from, to);
        boolean heading = part.contains("## Promise") || part.endsWith("`:") || part.matches(" ==== \\d\\.");
        if (heading || !EDGE.matcher(part).find()) {
            return;
        }
        boolean quoted = false;
        for (int i = from; i < to; i++) {
            quoted |= QUOTED[section][i];
        }
        Check.due("no test quotes section " + section + ":" + part, quoted, true);
    }
}
