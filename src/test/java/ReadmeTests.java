import java.io.IOException;
import java.nio.file.Files;
import java.nio.file.Path;
import java.util.List;
import java.util.Map;
import java.util.TreeSet;
import java.util.regex.Matcher;
import java.util.regex.Pattern;

/**
 * The calls that README.md shows answer what it says, and it tells the methods and error codes in the
 * document's words; where it is, the property "readme" tells.
 */
public final class ReadmeTests {
    private static final String MADE = "ChairNames room = new ChairNames();";
    private static final Pattern TYPED =
        Pattern.compile("for \\(char sign : \"([^\"]*)\"\\.toCharArray\\(\\)\\) room\\.type\\(sign\\);");
    private static final Pattern CALL =
        Pattern.compile("room\\.(\\w+)\\(([-0-9, ]*)\\); +// (-?[0-9]+|[A-Z_]+)(: .*)?");
    private static final Map<String, Integer> CODES = Map.of("INVALID_ARGUMENT", ChairNames.INVALID_ARGUMENT,
        "NOT_POSSIBLE", ChairNames.NOT_POSSIBLE, "LIMIT_REACHED", ChairNames.LIMIT_REACHED,
        "NOT_FOUND", ChairNames.NOT_FOUND);

    private static Subject room = new Subject();
    private static final TreeSet<String> shown = new TreeSet<>();
    private static int calls = 0;

    public static void main(String[] args) throws IOException {
        String readme = Files.readString(Path.of(System.getProperty("readme", "README.md")));
        readme.lines().filter(line -> line.startsWith("    ")).forEach(line -> doAsShown(line.trim()));
        everyMethodAndCodeIsShown();
        String document = QuoteTests.document();
        if (!document.isEmpty()) {
            isInTheWordsOf(document, QuoteTests.plain(readme));
        }
        Checks.end("ReadmeTests (" + calls + " calls)");
    }

    private static void doAsShown(String line) {
        Matcher typed = TYPED.matcher(line);
        Matcher call = CALL.matcher(line);
        if (line.equals(MADE)) {
            room = new Subject();
        } else if (typed.matches()) {
            room.typeAll(typed.group(1));
        } else if (call.matches()) {
            compare(call.group(1), call.group(2), call.group(3));
        } else if (line.contains("room.")) {
            Checks.tell("this line of README.md is no call with an answer: " + line);
        }
    }

    private static void compare(String name, String list, String answer) {
        String[] told = list.isEmpty() ? new String[0] : list.split(", ");
        int kind = Calls.kindOf(name, told.length);
        if (kind < 0 || !CODES.containsKey(answer) && !answer.matches("-?[0-9]+")) {
            Checks.tell("README.md tells of no call " + name + "(" + list + ") that answers " + answer);
            return;
        }
        int[] a = new int[4];
        for (int i = 0; i < told.length; i++) {
            a[i] = Integer.parseInt(told[i]);
        }
        int want = CODES.containsKey(answer) ? CODES.get(answer) : Integer.parseInt(answer);
        calls++;
        shown.add(name);
        shown.add(answer);
        Checks.due("README.md, call " + calls + ": " + Calls.told(kind, a[0], a[1], a[2], a[3]),
            room.call(kind, a[0], a[1], a[2], a[3]), want);
    }

    private static void everyMethodAndCodeIsShown() {
        for (int kind = 0; kind < Calls.kinds(); kind++) {
            if (!shown.contains(Calls.nameOf(kind))) {
                Checks.tell("README.md shows no call of " + Calls.nameOf(kind));
            }
        }
        for (String code : CODES.keySet()) {
            if (!shown.contains(code)) {
                Checks.tell("README.md shows no call that answers " + code);
            }
        }
    }

    private static void isInTheWordsOf(String document, String readme) {
        Pattern promise = Pattern.compile("(?s)\n## (Promise [0-9]+): [^\n]*\n(.*?)(?=\n## )");
        int promises = 0;
        for (Matcher m = promise.matcher(document); m.find(); ) {
            promises++;
            stands(readme, m.group(1), m.group(2));
        }
        Checks.due("the promises of the document", promises, 23);
        for (String code : List.copyOf(CODES.keySet())) {
            Matcher m = Pattern.compile("`" + code + " = [^\n]*").matcher(document);
            stands(readme, code, m.find() ? m.group() : "nothing of " + code);
        }
    }

    private static void stands(String readme, String what, String words) {
        if (!readme.contains(QuoteTests.plain(words))) {
            Checks.tell("README.md does not tell " + what + " in these words: " + QuoteTests.plain(words));
        }
    }
}
