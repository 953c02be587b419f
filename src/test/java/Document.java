import java.io.IOException;
import java.nio.file.Files;
import java.nio.file.Path;
import java.util.ArrayList;
import java.util.List;

/** The document's sections, from which each test takes away the words it stands for: what is left has no test. */
final class Document {
    private final String text;
    private String left = "";

    private Document(String text) {
        this.text = text;
    }

    static Document read(Path path) throws IOException {
        return new Document(Files.readString(path));
    }

    List<String> headings() {
        List<String> found = new ArrayList<>();
        for (String line : text.split("\n")) {
            if (line.startsWith("## ")) {
                found.add(line.substring(3).trim());
            }
        }
        return found;
    }

    boolean open(String heading) {
        int from = text.indexOf("\n## " + heading + "\n");
        if (from < 0) {
            left = "";
            return false;
        }
        int body = from + heading.length() + 5;
        int to = text.indexOf("\n## ", body);
        left = text.substring(body, to < 0 ? text.length() : to).replace("```text", "").replaceAll("`[^`\n]+`", "");
        return true;
    }

    boolean takeAway(String words) {
        int from = left.indexOf(words);
        if (from < 0) {
            return false;
        }
        left = left.substring(0, from) + "~" + left.substring(from + words.length());
        return true;
    }

    /** Empty, if nothing but marks and numbers is left. */
    String wordsLeft() {
        return left.matches("(?s)[^A-Za-z]*") ? "" : left.trim();
    }
}
