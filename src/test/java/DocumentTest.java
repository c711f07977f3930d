import java.io.IOException;
import java.lang.reflect.Method;
import java.nio.file.Files;
import java.nio.file.Path;

/**
 * The words that the tests say stand in ../shared/DOC.md, and each sentence of its terms and its promises is said by a
 * test. Runs in the project's folder.
 */
public final class DocumentTest {
    private static final Check CHECK = new Check("DocumentTest");
    private static final int PROMISES = 26;
    private static final Class<?>[] TESTS = {LoansTest.class, HourTest.class, WorkshopTest.class, SnapshotsTest.class,
        ErrorsTest.class, TextTest.class, LookingTest.class, ForecastTest.class};

    /** What names no case: titles, and how numbers are told. */
    private static final String[] TITLES = {"All numbers are whole where nothing else is told. Money is told in coins.",
        "Umbrellas, stands, persons", "### Loans", "### An hour", "Vans, workshop", "### Text", "### Snapshots",
        "### Undo", "### Errors"};

    public static void main(String[] args) throws IOException {
        String document = Files.readString(Path.of("../shared/DOC.md"));
        for (int promise = 0; promise <= PROMISES; promise++) {
            everySentenceIsSaid(promise, section(document, promise));
        }
        CHECK.end();
    }

    /** The text of a promise, or of the terms (0), each run of blanks and ends of lines as one blank. */
    private static String section(String document, int promise) {
        int start = document.indexOf(promise == 0 ? "## Terms\n" : "## Promise " + promise + ":");
        int end = document.indexOf(promise == PROMISES ? "## Not promised" : "## Promise " + (promise + 1) + ":");
        CHECK.holds("section " + promise + " is there", start >= 0 && end > start);
        String text = document.substring(start, end);
        text = text.substring(text.indexOf('\n')).replaceAll("Ahead of the calls [^\n]*\n", " ");
        return text.replaceAll("\\s+", " ").replaceFirst("^ `[A-Za-z ]+\\([^)]*\\)`: ", " ");
    }

    private static void everySentenceIsSaid(int promise, String text) {
        boolean[] said = new boolean[text.length()];
        for (Class<?> tests : TESTS) {
            for (Method test : Sentences.of(tests)) {
                Says says = test.getAnnotation(Says.class);
                for (String words : says.promise() == promise ? says.words() : new String[0]) {
                    CHECK.holds(test.getName() + ": <" + words + "> in section " + promise, mark(text, words, said));
                }
            }
        }
        if (promise == 0) {
            for (String title : TITLES) {
                CHECK.holds("title " + title, mark(text, title, said));
            }
        }
        StringBuilder left = new StringBuilder();
        for (int i = 0; i < said.length; i++) {
            left.append(said[i] ? '|' : text.charAt(i));
        }
        // A list's numbers, and what joins the parts of a sentence, are no words of their own.
        for (String rest : left.toString().split("\\|+")) {
            String words = rest.replaceAll("\\b[1-3]\\. ", "").replaceAll("[\\p{Punct}\\s]", "");
            CHECK.holds("section " + promise + ": <" + rest.trim() + "> is said by a test", words.isEmpty());
        }
    }

    private static boolean mark(String text, String words, boolean[] said) {
        int at = text.indexOf(words);
        for (int i = at; at >= 0 && i < at + words.length(); i++) {
            said[i] = true;
        }
        return at >= 0;
    }
}
