import java.io.IOException;
import java.nio.file.Files;
import java.nio.file.Path;
import java.util.ArrayList;
import java.util.List;
import java.util.Map;
import java.util.TreeMap;

/** The sentences of ../shared/DOC.md that tests hold: each is looked for there, and none there may be left out. */
final class Doc {
    private static final List<String[]> QUOTES = new ArrayList<>();

    private Doc() {
    }

    static void quote(String part, String words) {
        QUOTES.add(new String[] {part, words});
    }

    /** Each quote stands in its part of the document word by word, and all of each part is quoted. */
    static void check(Due due) {
        due.holds("DOC.md, each sentence has a test");
        Path file = Path.of(System.getProperty("project.root", "."), "..", "shared", "DOC.md");
        String text;
        try {
            text = Files.readString(file);
        } catch (IOException missing) {
            System.out.println("no document at " + file + ": its sentences are not looked for");
            return;
        }
        Map<String, String> parts = parts(text);
        Map<String, boolean[]> quoted = new TreeMap<>();
        parts.forEach((part, words) -> quoted.put(part, new boolean[words.length()]));
        for (String[] quote : QUOTES) {
            String words = parts.getOrDefault(quote[0], "");
            String sought = plain(quote[1]);
            int from = words.indexOf(sought);
            due.yes(quote[0] + " says \"" + sought + "\"", from >= 0);
            for (int i = from; from >= 0 && i < from + sought.length(); i++) {
                quoted.get(quote[0])[i] = true;
            }
        }
        parts.forEach((part, words) -> due.is(part + " without a test: " + left(words, quoted.get(part)), 0,
                left(words, quoted.get(part)).length()));
    }

    private static String left(String words, boolean[] quoted) {
        StringBuilder left = new StringBuilder();
        for (int i = 0; i < words.length(); i++) {
            left.append(Character.isLetterOrDigit(words.charAt(i)) && !quoted[i] ? words.substring(i, i + 1) : "");
        }
        return left.toString();
    }

    private static String plain(String text) {
        return text.replaceAll("\\s+", " ").trim();
    }

    /** Terms 0 (ahead of the first row) to Terms 4 and Promise 1 to 40, the latter without the head and the method. */
    private static Map<String, String> parts(String text) {
        Map<String, String> parts = new TreeMap<>();
        String terms = text.substring(text.indexOf("## Terms"), text.indexOf("The constants:"));
        String[] rows = terms.replace("## Terms", "").replace("```text", "").replace("```", "").split("==== \\d\\.");
        for (int i = 0; i < rows.length; i++) {
            parts.put("Terms " + i, plain(rows[i]));
        }
        String promises = text.substring(text.indexOf("## Promise 1:"), text.indexOf("## Not promised"));
        for (String promise : promises.split("## Promise ")) {
            int colon = promise.indexOf(':');
            int method = promise.indexOf("`: ");
            if (colon > 0 && method > 0) {
                parts.put("Promise " + promise.substring(0, colon), plain(promise.substring(method + 3)));
            }
        }
        return parts;
    }
}
