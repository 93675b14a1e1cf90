import java.io.IOException;
import java.nio.file.Files;
import java.nio.file.Path;
import java.util.regex.Matcher;
import java.util.regex.Pattern;

/** Rules of LANGUAGE.md that can be read off the text of the program. */
public final class LanguageTest {
    private static final String[] RULED_OUT = {
        "\\b(throw|throws|try|catch|synchronized|assert|package|volatile|native)\\b",
        "->", "::", "\\bvar\\b", "\\bstatic\\s*\\{", "Exact\\b", "\\[\\]\\s*\\[\\]\\s*\\[\\]",
        "\\b(equals|hashCode|toString)\\b", "\\b(System)\\.(?!arraycopy\\b)", "[^\\x00-\\x7f]",
        "\\bstatic\\s+(?!final\\b)(int|long|boolean|char|byte|String)(\\[\\])?\\s+\\w+\\s*[=;]"};

    public static void main(String[] args) throws IOException {
        Due due = new Due("LanguageTest");
        String source = Files.readString(Path.of("src/main/java/MirrorTower.java"));
        String code = source.replaceAll("(?s)/\\*.*?\\*/", "").replaceAll("//[^\n]*", "")
                .replaceAll("\"[^\"\n]*\"", "\"\"");
        for (String words : RULED_OUT) {
            due.is("places with " + words, countOf(words, code), 0);
        }
        due.is("imports other than Arrays",
                countOf("\\bimport\\b(?! java\\.util\\.(Arrays|ArrayList|List);)", code), 0);
        due.is("at most twelve classes",
                countOf("\\b(class|interface|enum|record)\\s+\\w+", code) <= 12, true);
        due.is("classes inside are static",
                countOf("(?<!static )(?<!static final )(?<!public final )\\bclass\\s", code), 0);
        due.is("at most seven parameters", countOf("\\((?:[^(),]*,){7}[^()]*\\)\\s*\\{", code), 0);
        due.is("methods of at most sixty lines", longestMethod(code) <= 60, true);
        due.end();
    }

    private static int countOf(String words, String code) {
        Matcher matcher = Pattern.compile(words).matcher(code);
        int found = 0;
        while (matcher.find()) {
            found++;
        }
        return found;
    }

    private static int longestMethod(String code) {
        int longest = 0;
        int began = -1;
        String end = "";
        String[] lines = code.split("\n");
        for (int i = 0; i < lines.length; i++) {
            Matcher head = Pattern.compile("^( {4}| {8})\\S.*\\) \\{$").matcher(lines[i]);
            if (began < 0 && head.matches()) {
                began = i;
                end = head.group(1) + "}";
            } else if (began >= 0 && lines[i].equals(end)) {
                longest = Math.max(longest, i - began + 1);
                began = -1;
            }
        }
        return longest;
    }
}
