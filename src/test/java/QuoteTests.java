import java.io.IOException;
import java.lang.reflect.Method;
import java.nio.file.Files;
import java.nio.file.Path;

/** The words that the tests quote stand in the document; where the document is, the property "doc" tells. */
public final class QuoteTests {
    private static final String LEFT_OUT = " .. ";

    public static void main(String[] args) throws IOException {
        String document = plain(document());
        if (document.isEmpty()) {
            System.out.println("QuoteTests: there is no document to compare with");
            return;
        }
        int quotes = 0;
        for (Class<?> tests : DocTest.ALL) {
            for (Method test : DocTest.testsOf(tests)) {
                quotes++;
                if (!stands(document, test.getAnnotation(Says.class).value())) {
                    Checks.tell(tests.getName() + "." + test.getName() + " quotes what is not in the document");
                }
            }
        }
        Checks.end("QuoteTests (" + quotes + " quotes)");
    }

    /** The document as it stands, empty if it is not there. */
    static String document() throws IOException {
        Path file = Path.of(System.getProperty("doc", "../shared/DOC.md"));
        return Files.isRegularFile(file) ? Files.readString(file) : "";
    }

    private static boolean stands(String document, String quote) {
        int from = 0;
        for (String part : quote.split(java.util.regex.Pattern.quote(LEFT_OUT))) {
            int at = document.indexOf(plain(part), from);
            if (at < 0) {
                return false;
            }
            from = at + 1;
        }
        return true;
    }

    /** A text without its marks of form, and with single blanks. */
    static String plain(String text) {
        return text.replace("`", "").replace("- ", "").replaceAll("\\s+", " ").trim();
    }
}
