import java.io.IOException;
import java.nio.file.Files;
import java.nio.file.Path;
import java.util.regex.Pattern;

/** The document, so that a test can say which of its words it holds the class to; section 0 is all ahead of promise 1. */
final class Doc {
    private static final int PROMISES = 42;
    /** Words say something; signs and the numbers of the parts of the Terms (==== 2.) do not. */
    private static final Pattern SAYS = Pattern.compile("[A-Za-z]");
    private static final String[] SECTIONS = new String[PROMISES + 1];
    private static final boolean[][] QUOTED = new boolean[PROMISES + 1][];
    private static boolean there = false;
    private static String quote = "";
    private static int lookedAhead = 0;
    private static int quotes = 0;

    private Doc() {
    }

    static void open(String project) throws IOException {
        Path doc = Path.of(project, "..", "shared", "DOC.md");
        there = Files.exists(doc);
        if (!there) {
            System.out.println("no " + doc + ": the answers are looked at, the quotes are not");
            return;
        }
        String all = Files.readString(doc).replaceAll("```(text|java)?", " ").replaceAll("\\s+", " ");
        int from = 0;
        for (int p = 0; p <= PROMISES; p++) {
            int to = all.indexOf(p < PROMISES ? "## Promise " + (p + 1) + ":" : "## Not promised");
            SECTIONS[p] = all.substring(from, to);
            QUOTED[p] = new boolean[to - from];
            from = to;
        }
    }

    /** The answers looked at from here on are those that these words ask for. */
    static void says(int section, String words) {
        closeQuote();
        quote = (section == 0 ? "Terms" : "Promise " + section) + ", \"" + words + "\"";
        quotes++;
        if (!there) {
            return;
        }
        int at = SECTIONS[section].indexOf(words);
        Check.due(quote + " stands in the document", at >= 0, true);
        for (int i = 0; at >= 0 && i < words.length(); i++) {
            QUOTED[section][at + i] = true;
        }
    }

    static void due(String what, long got, long want) {
        Check.due(quote + ": " + what, got, want);
    }

    static void due(String what, boolean got, boolean want) {
        Check.due(quote + ": " + what, got, want);
    }

    private static void closeQuote() {
        // The first of the answers looked at is that the words stand in the document.
        if (quotes > 0) {
            Check.due(quote + " has a test", Check.looked() > lookedAhead + (there ? 1 : 0), true);
        }
        lookedAhead = Check.looked();
    }

    /** Every word that says what is so was quoted; of the face LanguageTest looks at each line. */
    static void close() {
        closeQuote();
        if (there) {
            lookAt(0, "## What it is", "## The public face");
            lookAt(0, "## Terms", "");
            for (int p = 1; p <= PROMISES; p++) lookAt(p, "`: ", "");
        }
        System.out.println(quotes + " sentences of the document held to");
    }

    private static void lookAt(int section, String behind, String aheadOf) {
        String all = SECTIONS[section];
        int from = all.indexOf(behind) + behind.length();
        int to = aheadOf.isEmpty() ? all.length() : all.indexOf(aheadOf);
        Check.due("section " + section + " has " + behind, from >= behind.length() && to > from, true);
        int unquoted = from;
        for (int i = from; i < to; i++) {
            if (QUOTED[section][i] || i == to - 1) {
                String words = all.substring(unquoted, i);
                Check.due("no test quotes section " + section + ": " + words, SAYS.matcher(words).find(), false);
                unquoted = i + 1;
            }
        }
    }
}
