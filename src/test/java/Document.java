import java.io.IOException;
import java.nio.file.Files;
import java.nio.file.Path;
import java.util.ArrayList;
import java.util.List;
import java.util.regex.Matcher;
import java.util.regex.Pattern;

/** ../shared/DOC.md, against which the tests' words about it are held. */
final class Document {
    static final int PROMISES = 37;

    private final String text;
    private final boolean[] quoted;

    Document(Path path) throws IOException {
        // Quotation marks are single ones here, so that tests can quote without escapes.
        text = Files.readString(path).replace('"', '\'').replace("`", "").replaceAll("\\s+", " ");
        quoted = new boolean[text.length()];
    }

    /** Whether a sentence stands under a promise's heading or, if not there, among the terms or above them; it is marked then. */
    boolean quotes(int promise, String sentence) {
        return marks(sentence, headingOf(promise), headingOf(promise + 1)) || marks(sentence, 0, headingOf(1));
    }

    private boolean marks(String sentence, int from, int to) {
        int start = text.indexOf(sentence, from);
        if (start < 0 || start + sentence.length() > to) return false;
        for (int i = start; i < start + sentence.length(); i++) quoted[i] = true;
        return true;
    }

    private int headingOf(int promise) {
        return text.indexOf(promise > PROMISES ? "## Not promised" : "## Promise " + promise + ":");
    }

    /** The words of the terms and the promises that no test has quoted, each with some of what stands around it. */
    List<String> unquoted() {
        List<String> all = new ArrayList<>();
        look(text.indexOf("An object is used"), text.indexOf("## The public face"), all);
        look(text.indexOf("I. A ROW"), headingOf(1), all);
        for (int promise = 1; promise <= PROMISES; promise++) look(text.indexOf("): ", headingOf(promise)), headingOf(promise + 1), all);
        return all;
    }

    private void look(int from, int to, List<String> all) {
        Matcher words = Pattern.compile("[A-Za-z0-9]+").matcher(text);
        words.region(from, to);
        while (words.find()) {
            boolean isMark = words.group().matches("[IV]+") || words.group().equals("text");
            if (!quoted[words.start()] && !isMark) {
                all.add(words.group() + " in: " + text.substring(Math.max(from, words.start() - 40), Math.min(to, words.end() + 40)));
            }
        }
    }
}
