import java.io.IOException;
import java.lang.reflect.Field;
import java.lang.reflect.Modifier;
import java.nio.file.Files;
import java.nio.file.Path;
import java.util.Map;
import java.util.TreeMap;
import java.util.regex.Matcher;
import java.util.regex.Pattern;

/** Rules of LANGUAGE.md that can be read off the text of the program. */
public final class LanguageTest {
    private static final String[] RULED_OUT = {
        "\\b(throw|throws|try|catch|synchronized|assert|package|volatile|native)\\b",
        "->", "::", "\\bvar\\b", "\\bstatic\\s*\\{", "Exact\\b", "\\[\\]\\s*\\[\\]\\s*\\[\\]",
        "\\b(equals|hashCode|toString)\\b", "\\b(System)\\.(?!arraycopy\\b)", "[^\\x00-\\x7f]",
        "\\bstatic\\s+(?!final\\b)(int|long|boolean|char|byte|String)(\\[\\])?\\s+\\w+\\s*[=;]"};

    public static void main(String[] args) throws IOException {
        Due due = new Due("LanguageTest");
        String source = Files.readString(Path.of("src/main/java/MirrorTower.java"));
        String code = source.replaceAll("(?s)/\\*.*?\\*/", "").replaceAll("//[^\n]*", "")
                .replaceAll("\"[^\"\n]*\"", "\"\"");
        for (String words : RULED_OUT) {
            due.is("places with " + words, countOf(words, code), 0);
        }
        due.is("imports other than Arrays",
                countOf("\\bimport\\b(?! java\\.util\\.(Arrays|ArrayList|List);)", code), 0);
        due.is("at most twelve classes",
                countOf("\\b(class|interface|enum|record)\\s+\\w+", code) <= 12, true);
        due.is("classes inside are static",
                countOf("(?<!static )(?<!static final )(?<!public final )\\bclass\\s", code), 0);
        due.is("at most seven parameters", countOf("\\((?:[^(),]*,){7}[^()]*\\)\\s*\\{", code), 0);
        Map<String, String> bodies = bodiesOf(code);
        due.is("methods found: " + bodies.size(), bodies.size() > 40, true);
        for (Map.Entry<String, String> method : bodies.entrySet()) {
            due.is(method.getKey() + " has at most sixty lines",
                    countOf("\n", method.getValue()) <= 60, true);
            int depth = depthOf(method.getKey(), bodies, 0);
            due.is(method.getKey() + " goes at most eight calls deep, it goes " + depth,
                    depth <= 8, true);
        }
        for (Class<?> type : MirrorTower.class.getDeclaredClasses()) {
            due.is(type.getSimpleName() + " has at most twenty fields", fieldsOf(type) <= 20, true);
        }
        due.end();
    }

    private static int countOf(String words, String code) {
        Matcher matcher = Pattern.compile(words).matcher(code);
        int found = 0;
        while (matcher.find()) {
            found++;
        }
        return found;
    }

    /** The lines of each method by its name; those of one name stand together. */
    private static Map<String, String> bodiesOf(String code) {
        Map<String, String> bodies = new TreeMap<>();
        Pattern heads = Pattern.compile("^( {4}| {8})(?:[^ (][^(]* )?(\\w+)\\(.*\\) \\{$");
        String name = "";
        String end = "";
        for (String line : code.split("\n")) {
            Matcher head = heads.matcher(line);
            if (name.isEmpty() && head.matches()) {
                name = head.group(2);
                end = head.group(1) + "}";
                bodies.putIfAbsent(name, "\n");
            } else if (line.equals(end)) {
                name = "";
                end = "";
            } else if (!name.isEmpty()) {
                bodies.merge(name, line + "\n", String::concat);
            }
        }
        return bodies;
    }

    /** How many calls stand open at once in a method, its own and the library's among them. */
    private static int depthOf(String name, Map<String, String> bodies, int above) {
        if (above > 50) {
            return above;
        }
        int deepest = 0;
        Matcher calls = Pattern.compile("\\b(?!(?:if|for|while|switch|return)\\b)(\\w+)\\(")
                .matcher(bodies.getOrDefault(name, ""));
        while (calls.find()) {
            deepest = Math.max(deepest, depthOf(calls.group(1), bodies, above + 1));
        }
        return deepest + 1;
    }

    private static int fieldsOf(Class<?> type) {
        int fields = 0;
        for (Field field : type.getDeclaredFields()) {
            fields += Modifier.isStatic(field.getModifiers()) ? 0 : 1;
        }
        return fields;
    }
}
