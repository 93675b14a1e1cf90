import java.io.IOException;
import java.nio.file.Files;
import java.nio.file.Path;
import java.util.BitSet;
import java.util.LinkedHashMap;
import java.util.Map;
import java.util.function.Consumer;
import java.util.regex.Matcher;
import java.util.regex.Pattern;

/**
 * The Terms and promises of the document, word by word: each test quotes the words that it looks
 * at, and no words may be left that no test has quoted. So a sentence can't be forgotten, and one
 * that the document changes is seen.
 */
final class Sentences {
    private static final Path DOC = Path.of("../shared/DOC.md");
    private static final int TERMS = 6;
    private static final int PROMISES = 28;

    private final Due due;
    private final Map<String, String> texts = new LinkedHashMap<>();
    private final Map<String, BitSet> quoted = new LinkedHashMap<>();

    Sentences(Due due) throws IOException {
        this.due = due;
        String section = "";
        for (String line : Files.readAllLines(DOC)) {
            section = sectionFrom(line, section);
            boolean isWords = !section.isEmpty() && !line.startsWith("#") && !line.startsWith("```");
            if (isWords) {
                texts.merge(section, wordsOf(line), (a, b) -> a + " " + b);
            }
        }
        for (String name : texts.keySet()) {
            quoted.put(name, new BitSet());
        }
        due.is("Terms and promises in the document", texts.size(), TERMS + PROMISES);
    }

    /** A Term's name is its Roman number, a promise's its own number; what is neither has none. */
    private static String sectionFrom(String line, String before) {
        Matcher term = Pattern.compile("^([IV]+)\\. .*").matcher(line);
        Matcher promise = Pattern.compile("^## Promise (\\d+):.*").matcher(line);
        if (term.matches()) {
            return term.group(1);
        }
        if (promise.matches()) {
            return promise.group(1);
        }
        boolean isOther = line.startsWith("## ") || line.startsWith("The constants:");
        return isOther ? "" : before;
    }

    /** Without a Term's number and the head of a promise's method. */
    private static String wordsOf(String line) {
        return line.replaceFirst("^[IV]+\\. ", "").replaceFirst("^`[^`]*`: ", "")
                .trim().replaceAll("\\s+", " ");
    }

    /** Looks at the words with a test of their own. */
    void test(String section, String words, Consumer<Due> test) {
        due.about(section + ": " + words);
        quote(section, words);
        int before = due.looked();
        test.accept(due);
        if (due.looked() == before) {
            due.is("answers that the test looks at", 0, 1);
        }
    }

    /** Words that name no bound: a heading, or what other words say again. */
    void noBound(String section, String words) {
        due.about(section + ": " + words);
        quote(section, words);
    }

    private void quote(String section, String words) {
        String text = texts.getOrDefault(section, "");
        int at = text.indexOf(words);
        while (at >= 0 && quoted.get(section).get(at)) {
            at = text.indexOf(words, at + 1);
        }
        if (at < 0) {
            due.is("places with these words not yet quoted", 0, 1);
        } else {
            quoted.get(section).set(at, at + words.length());
        }
    }

    void nothingIsLeft() {
        for (Map.Entry<String, String> entry : texts.entrySet()) {
            due.about(entry.getKey());
            StringBuilder left = new StringBuilder();
            for (int i = 0; i < entry.getValue().length(); i++) {
                left.append(quoted.get(entry.getKey()).get(i) ? ' ' : entry.getValue().charAt(i));
            }
            String words = left.toString().replaceAll("[\\s.,:;()]+", " ").trim();
            due.is("words that no test has quoted: '" + words + "'", words.length(), 0);
        }
    }
}
