import java.nio.file.Files;
import java.nio.file.Path;
import java.util.TreeSet;

/**
 * The document, from which a test of a boundary quotes the words that name it: so none is tested that the
 * document doesn't name, and end() tells of a promise of which none is.
 */
final class Doc {
    private static final String HEAD = "## Promise ";

    private final Due due;
    private final String text;
    private final TreeSet<Integer> quoted = new TreeSet<>();

    Doc(Due due) throws Exception {
        this.due = due;
        text = Files.readString(Path.of(System.getProperty("doc")));
    }

    /** What is asked from here on is about words of the Terms. */
    void terms(String words) {
        quote(words, text.substring(text.indexOf("## Terms"), text.indexOf(HEAD)));
    }

    /** What is asked from here on is about words of a promise. */
    void promise(int number, String words) {
        int from = text.indexOf(HEAD + number + ":");
        int to = Math.min(ends(HEAD, from), ends("## Not promised", from));
        quote(words, from < 0 ? "" : text.substring(from, to));
        quoted.add(number);
    }

    private int ends(String head, int from) {
        int place = text.indexOf(head, from + 1);
        return place < 0 ? text.length() : place;
    }

    private void quote(String words, String part) {
        due.about(words);
        due.holds("these words stand in that part of the document",
            !words.isEmpty() && part.replaceAll("\\s+", " ").contains(words));
    }

    /** Each promise of those numbers has been quoted. */
    void end(int first, int last) {
        due.about("");
        for (int number = first; number <= last; number++) {
            due.holds("promise " + number + " is quoted", quoted.contains(number));
        }
        due.end();
    }
}
