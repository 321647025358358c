import java.io.IOException;
import java.lang.reflect.Constructor;
import java.lang.reflect.Field;
import java.lang.reflect.Method;
import java.lang.reflect.Modifier;
import java.nio.file.Files;
import java.nio.file.Path;
import java.util.Arrays;
import java.util.Set;
import java.util.TreeSet;
import java.util.regex.Matcher;
import java.util.regex.Pattern;

/** The document's public face, and those rules of LANGUAGE.md that can be seen without understanding the program. */
public final class FaceTest {
    private static final String[] FACE = {"boolean water(int, int)", "boolean village(int, int)", "int drowned(int)",
        "int household(int, int, int, int, boolean)", "boolean papers(int)", "boolean tie(int, int, int)",
        "int site(int, int)", "int field(int)", "boolean builders(int, int)", "int feed(int, int, int, int, int)",
        "boolean end(int)", "int rules()", "int fault(int)", "int look(int)", "int of(int, int)", "int best(int)",
        "int part(int)", "int months(int)"};
    private static final String FORBIDDEN = "\\b(throw|throws|try|catch|synchronized|assert|import|package|protected|"
            + "volatile|native|var|yield|Object|System\\.(?!arraycopy))\\b|->|::|Exact\\b|@";

    public static void main(String[] args) throws IOException {
        members();
        nestedClasses();
        source();
        Checks.finish();
    }

    private static void members() {
        Class<NewValley> face = NewValley.class;
        Checks.due("public and final", Modifier.isPublic(face.getModifiers()) && Modifier.isFinal(face.getModifiers()), true);
        Set<String> methods = new TreeSet<>();
        Set<String> names = new TreeSet<>();
        for (Method m : face.getDeclaredMethods()) {
            if (!Modifier.isPrivate(m.getModifiers())) {
                String types = Arrays.toString(m.getParameterTypes());
                methods.add(m.getReturnType() + " " + m.getName() + "(" + types.substring(1, types.length() - 1) + ")");
                names.add(m.getName());
                Checks.due(m + " is public and not static", Modifier.isPublic(m.getModifiers())
                        && !Modifier.isStatic(m.getModifiers()), true);
            }
        }
        Checks.due("the methods " + methods, methods.equals(new TreeSet<>(Arrays.asList(FACE))), true);
        noPrivateBears(names, face);
        for (Class<?> inside : face.getDeclaredClasses()) {
            noPrivateBears(names, inside);
        }
        Constructor<?>[] made = face.getDeclaredConstructors();
        Checks.due("one public constructor", made.length == 1 && Modifier.isPublic(made[0].getModifiers())
                && made[0].getParameterCount() == 0, true);
        for (Field f : face.getDeclaredFields()) {
            boolean none = f.getName().equals("NONE") && f.getType() == int.class
                    && f.getModifiers() == (Modifier.PUBLIC | Modifier.STATIC | Modifier.FINAL);
            Checks.due(f + " is NONE or private", none || Modifier.isPrivate(f.getModifiers()), true);
        }
    }

    private static void noPrivateBears(Set<String> names, Class<?> where) {
        for (Method m : where.getDeclaredMethods()) {
            boolean ofFace = where == NewValley.class && Modifier.isPublic(m.getModifiers());
            Checks.due(m + " bears a name of the face", !ofFace && names.contains(m.getName()), false);
        }
    }

    private static void nestedClasses() {
        Class<?>[] inside = NewValley.class.getDeclaredClasses();
        Checks.due("some twelve classes", inside.length <= 12, true);
        for (Class<?> one : inside) {
            Checks.due(one + " is static", Modifier.isStatic(one.getModifiers()), true);
            int fields = 0;
            for (Field f : one.getDeclaredFields()) {
                boolean constant = Modifier.isStatic(f.getModifiers());
                Checks.due(f + " is final", !constant || Modifier.isFinal(f.getModifiers()), true);
                fields += constant ? 0 : 1;
            }
            Checks.due(one + " has some twenty fields", fields <= 20, true);
        }
    }

    private static void source() throws IOException {
        String text = Files.readString(Path.of("src/main/java/NewValley.java"));
        String code = text.replaceAll("(?s)/\\*.*?\\*/", "").replaceAll("//[^\n]*", "").replaceAll("\"[^\"\n]*\"", "\"\"");
        Matcher found = Pattern.compile(FORBIDDEN).matcher(code);
        while (found.find()) {
            Checks.due("'" + found.group() + "' stands in the source", true, false);
        }
        int begun = -1;
        String[] lines = text.split("\n");
        for (int i = 0; i < lines.length; i++) {
            Checks.due("line " + (i + 1) + " is plain", lines[i].matches("[ -~]{0,120}"), true);
            if (lines[i].matches(" {4}( {4})?[a-z].*\\) \\{")) {
                begun = i;
            } else if (begun >= 0 && lines[i].matches(" {4}( {4})?\\}")) {
                Checks.due("the method at line " + (begun + 1) + " is short", i - begun <= 60, true);
                begun = -1;
            }
        }
    }
}
