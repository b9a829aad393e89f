import java.io.IOException;
import java.nio.file.Files;
import java.nio.file.Path;

/**
 * The pages that tests look into. Properties tell where they are; without them they are looked for from this project. A
 * page that cannot be read is empty.
 */
final class Pages {
    static final String DOCUMENT = textOf("document", "../shared/DOC.md");
    static final String PROGRAM = textOf("program", "src/main/java/SiegePost.java");
    static final String README = textOf("readme", "README.md");

    private Pages() {
    }

    private static String textOf(String property, String path) {
        Path page = Path.of(System.getProperty(property, path));
        try {
            return Files.readString(page).replace("\r", "");
        } catch (IOException e) {
            System.out.println("what is told of the " + property + " is not looked at: " + page + " cannot be read");
            return "";
        }
    }

    /** What stands in a page behind one text and ahead of the next other one; an empty text if it is not there. */
    static String between(String page, String start, String end) {
        int from = page.indexOf(start);
        int to = from < 0 ? -1 : page.indexOf(end, from + start.length());
        return to < 0 ? "" : page.substring(from + start.length(), to);
    }

    static String inOneLine(String text) {
        return text.strip().replaceAll("\\s+", " ");
    }
}
