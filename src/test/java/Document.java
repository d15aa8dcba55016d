import java.io.IOException;
import java.io.UncheckedIOException;
import java.nio.file.Files;
import java.nio.file.Path;
import java.util.Arrays;
import java.util.regex.Matcher;
import java.util.regex.Pattern;

/** The document's words, and which of them a test has quoted: place 0 has all up to the Terms' end, place n promise n. */
final class Document {
    static final int PROMISES = 44;
    private static final Path PLACE = Path.of("../shared/DOC.md");
    /** Words that name a boundary case: each such word has to stand in a sentence that a test quotes. */
    private static final Pattern BOUNDARY = Pattern.compile("\\b(NONE|BAD|STATE|FULL|NO|NOTHING|CAST|PLACE|SIZE|TRACE then)\\b"
        + "|-\\d+|\\d+ \\.\\. (\\d+|all|n)|\\d+ to \\d+|\\d+ or \\d+|\\b(at most|at least|at first|also|without|within|too early"
        + "|cut|none|no WORLDS|fewer|below|above 0|less than MEAN|or more|modulo|wrapping|first|least as|least set"
        + "|of several|empty|whatever|does not matter|beyond|lowest|kept|stays?|changes nothing)\\b");
    private static final String[] SECTIONS = read();
    private static final boolean[][] QUOTED = new boolean[PROMISES + 1][];

    static {
        for (int n = 0; n <= PROMISES; n++) {
            QUOTED[n] = new boolean[SECTIONS[n].length()];
        }
    }

    private Document() {
    }

    private static String[] read() {
        String[] sections = new String[PROMISES + 1];
        String all;
        try {
            all = Files.readString(PLACE).replaceAll("\\s+", " ");
        } catch (IOException e) {
            throw new UncheckedIOException(e);
        }
        sections[0] = all.substring(all.indexOf("An object is used"), all.indexOf("## Promise 1:"));
        for (int n = 1; n <= PROMISES; n++) {
            int from = all.indexOf("## Promise " + n + ":");
            int to = all.indexOf("## ", from + 3);
            sections[n] = all.substring(all.indexOf("`:", from) + 2, to);
        }
        return sections;
    }

    /** Marks words of a promise's own section, or of the Terms; they must stand there just once. */
    static void quote(int promise, String words) {
        int where = SECTIONS[promise].contains(words) ? promise : 0;
        int at = SECTIONS[where].indexOf(words);
        boolean isOnce = at >= 0 && SECTIONS[where].indexOf(words, at + 1) < 0;
        Due.is("promise " + promise + ": \"" + words + "\" stands once in the document", isOnce ? 1 : 0, 1);
        if (isOnce) {
            Arrays.fill(QUOTED[where], at, at + words.length(), true);
        }
    }

    /** Asks that each word that names a boundary case was quoted. */
    static void isQuoted() {
        for (int n = 0; n <= PROMISES; n++) {
            Matcher m = BOUNDARY.matcher(SECTIONS[n]);
            while (m.find()) {
                boolean isQuoted = true;
                for (int at = m.start(); at < m.end(); at++) {
                    isQuoted &= QUOTED[n][at];
                }
                String around = SECTIONS[n].substring(Math.max(0, m.start() - 40), Math.min(SECTIONS[n].length(), m.end() + 40));
                Due.is((n == 0 ? "ahead of promise 1" : "promise " + n) + ": a test of \"" + m.group() + "\" in \"" + around + "\"", isQuoted ? 1 : 0, 1);
            }
        }
    }
}
