import java.io.IOException;
import java.nio.file.Files;
import java.nio.file.Path;
import java.util.HashMap;
import java.util.Map;
import java.util.regex.Matcher;
import java.util.regex.Pattern;

/**
 * Words of the document, each with a test of its own. A test file opens the sections that it is for, and
 * close() fails if some words of these have no test, so that no sentence is passed over.
 */
final class Sentence {
    private static final Map<String, String> TEXTS = new HashMap<>();
    private static final Map<String, boolean[]> TESTED = new HashMap<>();

    private Sentence() {
    }

    /** The first argument of a test is the root of the checkout, beside which the document lies. */
    static void open(String[] args, String... sections) {
        Path path = Path.of(args.length > 0 ? args[0] : ".").resolve("../shared/DOC.md");
        if (!Files.exists(path)) {
            System.out.println("no document at " + path + ": its words are not looked for");
            return;
        }
        String document = documentAt(path);
        for (String section : sections) {
            String text = textOf(document, section);
            TEXTS.put(section, text);
            TESTED.put(section, new boolean[text.length()]);
        }
    }

    private static String documentAt(Path path) {
        try {
            return Files.readString(path);
        } catch (IOException e) {
            throw new IllegalStateException(e);
        }
    }

    private static String textOf(String document, String section) {
        Matcher found = Pattern.compile(startOf(section) + "(.*?)" + "(?=\n## |\n==== |\nOf several exceptions|\\z)",
                Pattern.DOTALL).matcher(document);
        return found.find() ? found.group(1).replace("```text", "").replace("```", "").replaceAll("\\s+", " ") : "";
    }

    /** Of a promise its text goes from behind its signature. */
    private static String startOf(String section) {
        if (section.startsWith("Promise ")) {
            return "\n## " + section + ": [^\n]*\n\n`[^`]*`:";
        }
        if (section.equals("Terms, end")) {
            return "(?=\nOf several exceptions)\n";
        }
        return section.startsWith("Terms ") ? "\n==== " + section.substring(6) + "\\." : "\n## " + section + "\n";
    }

    static void test(String section, String words, Check.Call call) {
        Check.about(section + ", '" + words + "': ");
        Check.due("it is in the document", mark(section, words), true);
        int before = Check.checked();
        try {
            call.run();
        } catch (RuntimeException e) {
            Check.due("a call", e.toString(), "nothing thrown");
        }
        Check.due("something was checked", Check.checked() > before, true);
        Check.about("");
    }

    /** Of words that name no case of their own: others of the section are what can be tested. */
    static void noCase(String section, String words) {
        Check.about(section + ", '" + words + "': ");
        Check.due("it is in the document", mark(section, words), true);
        Check.about("");
    }

    private static boolean mark(String section, String words) {
        if (TEXTS.isEmpty()) {
            return true;
        }
        int at = TEXTS.getOrDefault(section, "").indexOf(words);
        for (int i = 0; at >= 0 && i < words.length(); i++) {
            TESTED.get(section)[at + i] = true;
        }
        return at >= 0;
    }

    static void close() {
        for (Map.Entry<String, String> entry : TEXTS.entrySet()) {
            boolean[] tested = TESTED.get(entry.getKey());
            StringBuilder left = new StringBuilder();
            for (int i = 0; i < tested.length; i++) {
                left.append(tested[i] ? ' ' : entry.getValue().charAt(i));
            }
            String words = left.toString().replaceAll("[^A-Za-z0-9]+", " ").trim();
            Check.due("words of " + entry.getKey() + " without a test", words, "");
        }
        Check.close();
    }
}
