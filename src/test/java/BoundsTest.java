import java.io.IOException;
import java.nio.file.Files;
import java.nio.file.Path;
import java.util.Set;
import java.util.TreeSet;
import java.util.regex.Matcher;
import java.util.regex.Pattern;

/** All promises: each sentence that names a boundary case, and then each STATUS that the document names in a promise. */
public final class BoundsTest {
    private static final Path DOCUMENT = Path.of("../shared/DOC.md");
    private static final int PROMISES = 62;

    public static void main(String[] args) throws IOException {
        BoundsOfTrays.all();
        BoundsOfTexts.all();
        BoundsOfTelling.all();
        BoundsOfDeeds.all();
        BoundsOfLooks.all();
        BoundsOfCuts.all();
        BoundsOfReigns.all();
        eachStatus();
        Checks.end();
    }

    private static void eachStatus() throws IOException {
        String document = Files.readString(DOCUMENT);
        for (int promise = 1; promise <= PROMISES; promise++) {
            Set<Integer> named = named(document, promise);
            if (promise == 8) {
                // The only one that names them outside brackets.
                named.addAll(Set.of(1, 3, 4, 6, 11));
            }
            if (promise == 42) {
                // In PEACE and in war all HAIRS stand alike when WAX, 99 DAYS at most, is gone: there is no such call.
                named.remove(8);
            }
            Checks.due(promise + ": each STATUS that it names", Checks.met(promise).toString(), named.toString());
        }
    }

    /** Those in the last brackets of a promise's text, as in (2; 5; 9: it is so) or (0 to 999: 5). */
    private static Set<Integer> named(String document, int promise) {
        int from = document.indexOf("## Promise " + promise + ":");
        String text = document.substring(from, document.indexOf("\n## ", from));
        Matcher brackets = Pattern.compile("\\(([^()`]*)\\)").matcher(text.substring(text.lastIndexOf('`')));
        String last = "";
        while (brackets.find()) {
            last = brackets.group(1);
        }
        Set<Integer> named = new TreeSet<>();
        for (String item : last.split("; ")) {
            Matcher status = Pattern.compile("(\\d+)(:.*)?|.*: (\\d+)").matcher(item);
            if (status.matches()) {
                named.add(Integer.valueOf(status.group(1) != null ? status.group(1) : status.group(3)));
            }
        }
        return named;
    }
}
