import java.io.IOException;
import java.lang.reflect.Method;
import java.lang.reflect.Modifier;
import java.nio.file.Files;
import java.nio.file.Path;
import java.util.Set;
import java.util.TreeSet;
import java.util.regex.Matcher;
import java.util.regex.Pattern;

/** README.md shows every call of the face, and the answers that it tells are those that the class gives. */
public final class ReadmeTest extends Checks {
    private static final Pattern CALL = Pattern.compile("valley\\.(\\w+)\\(([^)]*)\\); +// (true|false|NONE|\\d+)\\b.*");

    private static final Set<String> SHOWN = new TreeSet<>();

    public static void main(String[] args) throws IOException, ReflectiveOperationException {
        about("README.md");
        NewValley valley = new NewValley();
        for (String line : Files.readAllLines(Path.of("README.md"))) {
            if (line.startsWith("valley.")) {
                callAsShown(valley, line);
            }
        }
        for (Method m : NewValley.class.getDeclaredMethods()) {
            if (Modifier.isPublic(m.getModifiers())) {
                yes(m.getName() + " is shown", SHOWN.contains(m.getName()));
            }
        }
        Checks.finish();
    }

    private static void callAsShown(NewValley valley, String line) throws ReflectiveOperationException {
        Matcher parts = CALL.matcher(line);
        boolean isCall = parts.matches();
        yes("a call and its answer: " + line, isCall);
        Method called = isCall ? methodOf(parts.group(1)) : null;
        if (called == null) {
            yes("a call of the face: " + line, false);
            return;
        }
        SHOWN.add(called.getName());
        String[] words = parts.group(2).isEmpty() ? new String[0] : parts.group(2).split(", ");
        Object[] arguments = new Object[words.length];
        for (int i = 0; i < words.length; i++) {
            arguments[i] = valueOf(words[i]);
        }
        Object answer = called.invoke(valley, arguments);
        yes(line + " (answered: " + answer + ")", answer.equals(valueOf(parts.group(3))));
    }

    private static Method methodOf(String name) {
        for (Method m : NewValley.class.getDeclaredMethods()) {
            if (Modifier.isPublic(m.getModifiers()) && m.getName().equals(name)) {
                return m;
            }
        }
        return null;
    }

    private static Object valueOf(String word) {
        switch (word) {
            case "true":
            case "false":
                return word.equals("true");
            case "NONE":
                return NewValley.NONE;
            default:
                return Integer.decode(word);
        }
    }
}
