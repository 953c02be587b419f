import java.io.IOException;
import java.nio.file.Files;
import java.nio.file.Path;
import java.util.ArrayList;
import java.util.List;

/**
 * Each sentence of the document has a test of its own, which is told with the promise and the sentence's words. A test
 * whose words the document does not have fails, and so does a section with words that no test stands for.
 */
public final class SentencesTest {
    private static final String WITH_ALL_WORDS = "Terms|Promise .*";

    private static Document document = null;
    private static String heading = "";
    private static final List<String> opened = new ArrayList<>();
    private static int tests = 0;

    public static void main(String[] args) throws IOException {
        Path path = Path.of(System.getProperty("document", "../shared/DOC.md"));
        if (Files.exists(path)) {
            document = Document.read(path);
        } else {
            System.out.println(path + " is not there: the tests' words are not compared with it");
        }
        TermsSentences.all();
        RowSentences.all();
        CopySentences.all();
        TableSentences.all();
        LikenessSentences.all();
        LinkSentences.all();
        closeSection();
        checkHeadings();
        int wrong = Checks.wrongAnswers();
        System.out.println(tests + " sentences, " + (wrong == 0 ? "all answers are as due" : wrong + " answers are not as due"));
        if (wrong != 0) {
            System.exit(1);
        }
    }

    static void section(String newHeading) {
        closeSection();
        heading = newHeading;
        opened.add(heading);
        Checks.nowTesting(heading);
        if (document != null && !document.open(heading)) {
            Checks.isWrong("the document has no such section");
        }
    }

    static void sentence(String words, Runnable test) {
        tests++;
        Checks.nowTesting(heading + ", \"" + words + "\":");
        if (document != null && !document.takeAway(words)) {
            Checks.isWrong("the document does not have these words, or not once more");
        }
        try {
            test.run();
        } catch (RuntimeException | StackOverflowError thrown) {
            Checks.isWrong("threw " + thrown);
        }
    }

    private static void closeSection() {
        if (document == null || !heading.matches(WITH_ALL_WORDS)) {
            return;
        }
        Checks.nowTesting(heading);
        if (!document.wordsLeft().isEmpty()) {
            Checks.isWrong("no test stands for what is left: " + document.wordsLeft());
        }
    }

    private static void checkHeadings() {
        if (document == null) {
            return;
        }
        Checks.nowTesting("the document's sections");
        for (String there : document.headings()) {
            if (there.matches(WITH_ALL_WORDS) && !opened.contains(there)) {
                Checks.isWrong("no test stands for " + there);
            }
        }
    }
}
