import java.io.IOException;
import java.io.UncheckedIOException;
import java.nio.file.Files;
import java.nio.file.Path;

/** The document's sentences: a test names the one that its checks are for, and in the end each must have been named. */
final class Sentences {
    private static final String DOCUMENT = read();
    private static final boolean[] NAMED = new boolean[DOCUMENT.length()];
    /** Lines that ask for nothing that the other lines do not ask for. */
    private static final String TITLES = "(Conventions|Breaks|Sponsors|Reasons|Prices|Owed spots|Arrangements|Setup text|Changes"
        + "|The constants):|The constructor and the methods follow, .*";

    private static String latest = "";
    private static int madeBefore = 0;

    private Sentences() {
    }

    private static String read() {
        try {
            return Files.readString(Path.of("../shared/DOC.md"));
        } catch (IOException e) {
            throw new UncheckedIOException(e);
        }
    }

    /** The checks that follow are for these words of the promise's section, or of those that all promises share. */
    static void name(int promise, String words) {
        closeLatest();
        Check.about("");
        int at = find("## Promise " + promise + ":", "## ", words);
        if (at < 0) {
            at = find("## What it is", "## Promise 1:", words);
        }
        Check.same(promise + " \"" + words + "\" stands in the document", at >= 0, true);
        for (int k = 0; k < words.length() && at >= 0; k++) {
            NAMED[at + k] = true;
        }
        latest = promise + " \"" + words + "\"";
        Check.about(latest + ": ");
        madeBefore = Check.made();
    }

    private static int find(String head, String next, String words) {
        int from = DOCUMENT.indexOf("\n" + head);
        int to = DOCUMENT.indexOf("\n" + next, from + 1);
        int at = from < 0 ? -1 : DOCUMENT.indexOf(words, from + head.length());
        return at >= 0 && at + words.length() <= to ? at : -1;
    }

    private static void closeLatest() {
        Check.about("");
        Check.same("the checks of " + latest, latest.isEmpty() || Check.made() > madeBefore, true);
        latest = "";
    }

    /** Each line from the description to the last promise must have been named, but for heads, titles and signatures. */
    static void checkAllNamed() {
        closeLatest();
        int at = DOCUMENT.indexOf("\n## Description") + 1;
        int end = DOCUMENT.indexOf("\n## Not promised");
        while (at < end) {
            int next = DOCUMENT.indexOf('\n', at) + 1;
            String line = DOCUMENT.substring(at, next - 1);
            if (!line.startsWith("#") && !line.startsWith("`") && !line.matches(TITLES)) {
                Check.same("words that no test names in \"" + line + "\"", notNamed(at, next - 1).isEmpty(), true);
            }
            at = next;
        }
    }

    private static String notNamed(int from, int to) {
        StringBuilder left = new StringBuilder();
        for (int at = from; at < to; at++) {
            if (!NAMED[at] && DOCUMENT.charAt(at) != ' ') {
                left.append(DOCUMENT.charAt(at));
            }
        }
        if (left.length() > 0) {
            System.out.println("not named: " + left);
        }
        return left.toString();
    }
}
