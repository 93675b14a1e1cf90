import java.io.IOException;
import java.lang.reflect.Method;
import java.nio.file.DirectoryStream;
import java.nio.file.Files;
import java.nio.file.Path;
import java.util.Collections;
import java.util.regex.Matcher;
import java.util.regex.Pattern;

/** README.md: the calls that it shows answer what it says, and no call or test is left out. */
public final class ReadmeTest {
    private static final Path PAGE = Path.of("README.md");
    private static final Path TESTS = Path.of("src/test/java");
    private static final Pattern CALL = Pattern.compile("x\\.(\\w+)\\((.*)\\); +// (\\S+?):?(?: .*)?");
    private static final Due due = new Due("ReadmeTest");

    public static void main(String[] args) throws IOException, ReflectiveOperationException {
        int shown = showsRightAnswers();
        due.is("calls shown: " + shown, shown > 30, true);
        namesEveryCall();
        namesEveryTest();
        due.end();
    }

    private static int showsRightAnswers() throws IOException, ReflectiveOperationException {
        MirrorTower x = new MirrorTower();
        int shown = 0;
        for (String line : Files.readAllLines(PAGE)) {
            if (line.startsWith("x.")) {
                Matcher call = CALL.matcher(line);
                boolean isCall = call.matches();
                due.is("a call with its answer: " + line, isCall, true);
                if (isCall) {
                    String got = answerOf(x, call.group(1), call.group(2));
                    due.is(line + " [" + got + "]", got.equals(call.group(3)), true);
                    shown++;
                }
            }
        }
        return shown;
    }

    private static String answerOf(MirrorTower x, String name, String words)
            throws ReflectiveOperationException {
        String[] parts = words.isEmpty() ? new String[0] : words.split(", ");
        Object[] values = new Object[parts.length];
        for (int i = 0; i < parts.length; i++) {
            values[i] = valueOf(parts[i]);
        }
        return String.valueOf(methodOf(name).invoke(x, values));
    }

    private static Object valueOf(String word) {
        if (word.equals("true") || word.equals("false")) {
            return Boolean.valueOf(word);
        }
        return word.startsWith("0b") ? Integer.valueOf(word.substring(2), 2) : Integer.valueOf(word);
    }

    private static Method methodOf(String name) {
        for (Method method : MirrorTower.class.getDeclaredMethods()) {
            if (method.getName().equals(name)) {
                return method;
            }
        }
        throw new IllegalArgumentException("no method " + name);
    }

    private static void namesEveryCall() throws IOException {
        String page = Files.readString(PAGE);
        for (Method method : MirrorTower.class.getMethods()) {
            if (method.getDeclaringClass() == MirrorTower.class) {
                String names = String.join(", ",
                        Collections.nCopies(method.getParameterCount(), "\\w+"));
                String head = method.getName() + "\\(" + names + "\\)";
                due.is(head + " is in the table",
                        Pattern.compile("\\| `" + head + "` \\|").matcher(page).find(), true);
            }
        }
    }

    private static void namesEveryTest() throws IOException {
        String page = Files.readString(PAGE);
        try (DirectoryStream<Path> tests = Files.newDirectoryStream(TESTS, "*Test.java")) {
            for (Path test : tests) {
                String name = test.getFileName().toString().replace(".java", "");
                due.is(name + " is in the table", page.contains("| " + name + " |"), true);
            }
        }
    }
}
