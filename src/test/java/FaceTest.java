import java.io.IOException;
import java.lang.reflect.Constructor;
import java.lang.reflect.Field;
import java.lang.reflect.Method;
import java.lang.reflect.Modifier;
import java.nio.file.Files;
import java.nio.file.Path;
import java.util.Arrays;
import java.util.Set;
import java.util.TreeSet;
import java.util.regex.Matcher;
import java.util.regex.Pattern;

/** The document's public face, and those rules of LANGUAGE.md that can be seen without understanding the program. */
public final class FaceTest extends Checks {
    private static final String[] FACE = {"boolean water(int, int)", "boolean village(int, int)", "int drowned(int)",
        "int household(int, int, int, int, boolean)", "boolean papers(int)", "boolean tie(int, int, int)",
        "int site(int, int)", "int field(int)", "boolean builders(int, int)", "int feed(int, int, int, int, int)",
        "boolean end(int)", "int rules()", "int fault(int)", "int look(int)", "int of(int, int)", "int best(int)",
        "int part(int)", "int months(int)"};
    private static final String FORBIDDEN = "\\b(throw|throws|try|catch|synchronized|assert|package|protected)\\b|::"
            + "|\\bimport (?!java\\.util\\.(ArrayList|List|Arrays|Iterator);)|Exact *\\(";
    /** What LANGUAGE.md tells as 'some twelve', 'some twenty' and 'some sixty', with a little room. */
    private static final int MOST_CLASSES = 14;
    private static final int MOST_FIELDS = 23;
    private static final int MOST_LINES = 66;
    private static final int MOST_PARAMETERS = 7;

    public static void main(String[] args) throws IOException {
        members();
        nestedClasses();
        source();
        Checks.finish();
    }

    private static void members() {
        Class<NewValley> face = NewValley.class;
        yes("public and final", Modifier.isPublic(face.getModifiers()) && Modifier.isFinal(face.getModifiers()));
        Set<String> methods = new TreeSet<>();
        Set<String> names = new TreeSet<>();
        for (Method m : face.getDeclaredMethods()) {
            if (!Modifier.isPrivate(m.getModifiers())) {
                String types = Arrays.toString(m.getParameterTypes());
                methods.add(m.getReturnType() + " " + m.getName() + "(" + types.substring(1, types.length() - 1) + ")");
                names.add(m.getName());
                yes(m + " is public and not static", Modifier.isPublic(m.getModifiers())
                        && !Modifier.isStatic(m.getModifiers()));
            }
        }
        yes("the methods " + methods, methods.equals(new TreeSet<>(Arrays.asList(FACE))));
        methodsKeepTheRules(names, face);
        for (Class<?> inside : face.getDeclaredClasses()) {
            methodsKeepTheRules(names, inside);
        }
        Constructor<?>[] made = face.getDeclaredConstructors();
        yes("one public constructor", made.length == 1 && Modifier.isPublic(made[0].getModifiers())
                && made[0].getParameterCount() == 0);
        for (Field f : face.getDeclaredFields()) {
            boolean none = f.getName().equals("NONE") && f.getType() == int.class
                    && f.getModifiers() == (Modifier.PUBLIC | Modifier.STATIC | Modifier.FINAL);
            yes(f + " is NONE or private", none || Modifier.isPrivate(f.getModifiers()));
        }
    }

    private static void methodsKeepTheRules(Set<String> names, Class<?> where) {
        for (Method m : where.getDeclaredMethods()) {
            boolean isPrivate = Modifier.isPrivate(m.getModifiers());
            no(m + " bears a name of the face", isPrivate && names.contains(m.getName()));
            no(m + " is a lambda", m.getName().startsWith("lambda$"));
            yes(m + " takes few parameters", m.getParameterCount() <= MOST_PARAMETERS);
        }
    }

    private static void nestedClasses() {
        Class<?>[] inside = NewValley.class.getDeclaredClasses();
        yes("some twelve classes", inside.length + 1 <= MOST_CLASSES);
        fieldsKeepTheRules(NewValley.class);
        for (Class<?> one : inside) {
            yes(one + " is static", Modifier.isStatic(one.getModifiers()));
            no(one + " is public", Modifier.isPublic(one.getModifiers()) || Modifier.isProtected(one.getModifiers()));
            fieldsKeepTheRules(one);
        }
    }

    private static void fieldsKeepTheRules(Class<?> one) {
        int fields = 0;
        for (Field f : one.getDeclaredFields()) {
            boolean isStatic = Modifier.isStatic(f.getModifiers());
            yes(f + " is final", !isStatic || Modifier.isFinal(f.getModifiers()));
            fields += isStatic ? 0 : 1;
        }
        yes(one + " has some twenty fields", fields <= MOST_FIELDS);
    }

    private static void source() throws IOException {
        String text = Files.readString(Path.of("src/main/java/NewValley.java"));
        String code = text.replaceAll("(?s)/\\*.*?\\*/", "").replaceAll("//[^\n]*", "").replaceAll("\"[^\"\n]*\"", "\"\"");
        Matcher found = Pattern.compile(FORBIDDEN).matcher(code);
        while (found.find()) {
            yes("'" + found.group() + "' stands in the source", false);
        }
        int begun = -1;
        String[] lines = text.split("\n");
        for (int i = 0; i < lines.length; i++) {
            if (lines[i].matches(" {4}( {4})?[a-z].*\\) \\{")) {
                begun = i;
            } else if (begun >= 0 && lines[i].matches(" {4}( {4})?\\}")) {
                yes("the method at line " + (begun + 1) + " is short", i - begun <= MOST_LINES);
                begun = -1;
            }
        }
    }
}
