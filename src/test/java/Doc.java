import java.io.IOException;
import java.nio.file.Files;
import java.nio.file.Path;
import java.util.Arrays;
import java.util.LinkedHashMap;
import java.util.Map;
import java.util.regex.Matcher;
import java.util.regex.Pattern;

/**
 * The document, by its promises ("1" to "46") and Terms ("I" to "IV"). A test says the words that it tests; at the end
 * it is seen whether there are words that no test has said.
 */
final class Doc {
    private static final Path FILE = Path.of("../shared/DOC.md");
    private static final Map<String, String> WORDS = new LinkedHashMap<>();
    private static final Map<String, boolean[]> SAID = new LinkedHashMap<>();

    private Doc() {
    }

    static void open() throws IOException {
        if (!Files.isReadable(FILE)) {
            System.out.println("there is no " + FILE + ": only the answers are looked at");
            return;
        }
        String doc = Files.readString(FILE);
        String terms = between(doc, "## Terms", "The constants:");
        String[] numbers = {"I", "II", "III", "IV"};
        for (int i = 0; i < numbers.length; i++) {
            String from = "\n" + numbers[i] + ". ";
            keep(numbers[i], between(terms, from, i < 3 ? "\n" + numbers[i + 1] + ". " : ""));
        }
        Matcher promise = Pattern.compile("(?s)## Promise (\\d+): [^\n]*\n\n`[^`]*`: (.*?)\n\n").matcher(doc);
        while (promise.find()) {
            keep(promise.group(1), promise.group(2));
        }
        Check.due("sections of the document", WORDS.size(), 50);
    }

    private static String between(String text, String from, String to) {
        int start = text.indexOf(from) + from.length();
        return to.isEmpty() ? text.substring(start) : text.substring(start, text.indexOf(to, start));
    }

    private static void keep(String section, String words) {
        String plain = words.replace("```text", " ").replace("```", " ").replaceAll("\\s+", " ").trim();
        WORDS.put(section, plain);
        SAID.put(section, new boolean[plain.length()]);
    }

    /** What follows tests these words of a section. */
    static void says(String section, String words) {
        if (WORDS.isEmpty()) {
            return;
        }
        String all = WORDS.getOrDefault(section, "");
        int at = all.indexOf(words);
        Check.due("the document says in " + section + ": " + words, at >= 0, true);
        for (; at >= 0; at = all.indexOf(words, at + 1)) {
            Arrays.fill(SAID.get(section), at, at + words.length(), true);
        }
    }

    /** Each word of the document must have been said. */
    static void allIsSaid() {
        for (String section : WORDS.keySet()) {
            String all = WORDS.get(section);
            StringBuilder rest = new StringBuilder();
            for (int i = 0; i < all.length(); i++) {
                boolean counts = Character.isLetterOrDigit(all.charAt(i)) || all.charAt(i) == ' ';
                rest.append(SAID.get(section)[i] || !counts ? ' ' : all.charAt(i));
            }
            Check.due("words in " + section + " without a test: " + rest.toString().trim().replaceAll(" +", " "),
                rest.toString().isBlank(), true);
        }
    }
}
