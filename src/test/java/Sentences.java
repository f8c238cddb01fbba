import java.io.IOException;
import java.nio.file.Files;
import java.nio.file.Path;
import java.util.LinkedHashMap;
import java.util.Map;
import java.util.regex.Matcher;
import java.util.regex.Pattern;

/**
 * The sentences of ../shared/DOC.md. A test names the one that it is for in the document's own
 * words; at the end those words are told that no test has named. Runs in the project's folder.
 */
final class Sentences {
    private static final String USE = "What it is";
    private static final String TERMS = "Terms";
    private static final Pattern HEADING = Pattern.compile("## (What it is|Terms|Promise \\d+|.*)");

    private static final Map<String, StringBuilder> TEXTS = new LinkedHashMap<>();
    private static final Map<String, boolean[]> NAMED = new LinkedHashMap<>();
    private static int checksAtBegin = -1;

    private Sentences() {
    }

    static void ofUse(String words) {
        begin(USE, words);
    }

    static void ofTerms(String words) {
        begin(TERMS, words);
    }

    static void ofPromise(int promise, String words) {
        begin("Promise " + promise, words);
    }

    /** Words that promise nothing of their own. */
    static void promisesNothing(String section, String words) {
        mark(section, words);
    }

    /** The checks from here to the next sentence are this one's. */
    private static void begin(String section, String words) {
        checkThatThereWereChecks();
        Checks.about("");
        mark(section, words);
        Checks.about(section + ", '" + words + "': ");
        checksAtBegin = Checks.many();
    }

    private static void checkThatThereWereChecks() {
        if (checksAtBegin >= 0) {
            Checks.note(Checks.many() > checksAtBegin, "nothing is checked");
        }
    }

    private static void mark(String section, String words) {
        String text = texts().containsKey(section) ? texts().get(section).toString() : "";
        int start = text.indexOf(words);
        Checks.note(start >= 0, section + " does not say: " + words);
        for (int i = start; start >= 0 && i < start + words.length(); i++) {
            NAMED.get(section)[i] = true;
        }
    }

    /** Each word of the document's sections has been named by a test. */
    static void checkThatAllAreNamed() {
        checkThatThereWereChecks();
        Checks.about("");
        checksAtBegin = -1;
        for (String section : texts().keySet()) {
            StringBuilder left = new StringBuilder(texts().get(section));
            for (int i = 0; i < left.length(); i++) {
                if (NAMED.get(section)[i]) {
                    left.setCharAt(i, ' ');
                }
            }
            boolean isAllNamed = left.chars().noneMatch(Character::isLetterOrDigit);
            Checks.note(isAllNamed, section + ", no test names: " + left.toString().trim().replaceAll("\\s+", " "));
        }
    }

    private static Map<String, StringBuilder> texts() {
        if (TEXTS.isEmpty()) {
            try {
                readDocument();
            } catch (IOException e) {
                Checks.note(false, "the document can't be read: " + e);
            }
        }
        return TEXTS;
    }

    private static void readDocument() throws IOException {
        StringBuilder section = new StringBuilder();
        for (String line : Files.readAllLines(Path.of("../shared/DOC.md"))) {
            Matcher heading = HEADING.matcher(line);
            if (heading.lookingAt()) {
                section = new StringBuilder();
                String name = heading.group(1);
                if (name.equals(USE) || name.equals(TERMS) || name.startsWith("Promise ")) {
                    TEXTS.put(name, section);
                }
            } else if (!line.startsWith("```")) {
                section.append(plain(line));
            }
        }
        for (String name : TEXTS.keySet()) {
            NAMED.put(name, new boolean[TEXTS.get(name).length()]);
        }
    }

    /** The line without its marks, and without the head of a method, which LanguageTest compares. */
    private static String plain(String line) {
        String words = line.replaceFirst("^`[^`]*\\([^`]*\\)[^`]*`:", "").replace("`", "").trim();
        return words.isEmpty() ? "" : words.replaceAll("\\s+", " ") + " ";
    }
}
