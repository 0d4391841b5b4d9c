import java.io.IOException;
import java.lang.reflect.Member;
import java.lang.reflect.Method;
import java.lang.reflect.Modifier;
import java.nio.file.Files;
import java.nio.file.Path;
import java.util.ArrayList;
import java.util.Arrays;
import java.util.List;
import java.util.TreeSet;
import java.util.regex.Matcher;
import java.util.regex.Pattern;

/** The face of the document, and those rules of LANGUAGE.md that a look at the class and its text can tell. */
public final class LanguageTest {
    private static final String[] FACE = {
        "int feed(int, int, int, int, int)", "boolean end(int)", "int read(int)", "int fault(int)", "int write(int)",
        "int written(int)", "int again()", "boolean clear(int)", "int look(int, int)", "boolean has(int, int)",
        "int least(int, int)", "int nearer(int, int, int, int)", "int unlike(int, int)", "int alike(int, int)",
        "int cut(int, int, int)", "int strict(int, int)", "int most(int, int)", "int triple(int, int, int)",
        "int untriple()", "int build(int, int)", "int shown(int)", "int sign(int)", "int unsign()",
        "int perfect(int, int)", "void state(int, int, int)", "int changes(int, int)", "void kinds(int)",
        "void distance(int, int, int)", "boolean fourPoints()", "boolean clock(int)", "void nearest(int)",
        "int doublings(int, int)", "int losses(int, int)", "long orders(int)", "int count(int)"};
    private static final String[] REFUSED = {"Exact\\b", "->", "::", "\\bsynchronized\\b", "\\bassert\\b",
        "\\bfinally\\b", "\\bSystem\\.(?!arraycopy)", "\\bThread\\b", "\\bRandom\\b", "\\btry\\b", "\\bcatch\\b",
        "\\bprotected\\b", "\\bpackage\\b", "\\bstatic \\{", "\\bdouble\\b", "\\bfloat\\b", "getMessage",
        "import (?!java\\.util\\.NoSuchElementException;)", "while \\(true\\)", "for \\(;"};

    public static void main(String[] args) throws IOException {
        face();
        Path root = Path.of(args.length > 0 ? args[0] : ".");
        text(Files.readString(root.resolve("src/main/java/LineageBench.java")));
        Check.close();
    }

    private static void face() {
        Class<?> c = LineageBench.class;
        Check.due("public and final", c.getModifiers(), Modifier.PUBLIC | Modifier.FINAL);
        Check.due("one constructor", c.getDeclaredConstructors().length, 1);
        TreeSet<String> due = new TreeSet<>(Arrays.asList(FACE));
        TreeSet<String> open = new TreeSet<>();
        TreeSet<String> names = new TreeSet<>();
        for (Method m : c.getDeclaredMethods()) {
            if (!Modifier.isPrivate(m.getModifiers())) {
                names.add(m.getName());
                String types = Arrays.toString(m.getParameterTypes());
                open.add(m.getReturnType() + " " + m.getName() + "(" + types.substring(1, types.length() - 1) + ")");
            }
        }
        Check.due("the face", open.toString(), due.toString());
        List<String> fields = new ArrayList<>();
        for (Member f : c.getDeclaredFields()) {
            if (!Modifier.isPrivate(f.getModifiers())) {
                fields.add(Modifier.toString(f.getModifiers()) + " " + f.getName());
            }
        }
        Check.due("fields that are not private", fields.toString(), "[public static final NONE]");
        privateOnes(c, names);
        for (Class<?> inner : c.getDeclaredClasses()) {
            Check.due(inner + " is static", Modifier.isStatic(inner.getModifiers()), true);
            privateOnes(inner, names);
        }
        Check.due("classes", c.getDeclaredClasses().length <= 12, true);
    }

    private static void privateOnes(Class<?> c, TreeSet<String> names) {
        int fields = 0;
        for (java.lang.reflect.Field f : c.getDeclaredFields()) {
            boolean isStatic = Modifier.isStatic(f.getModifiers());
            fields += isStatic ? 0 : 1;
            Check.due(f + " is a constant, if it is static", isStatic && !Modifier.isFinal(f.getModifiers()), false);
        }
        Check.due("fields of " + c, fields <= 20, true);
        for (Method m : c.getDeclaredMethods()) {
            boolean open = c == LineageBench.class && Modifier.isPublic(m.getModifiers());
            Check.due(m + " bears a name of the face", !open && names.contains(m.getName()), false);
            Check.due(m + " has too many parameters", m.getParameterCount() > 7, false);
        }
    }

    private static void text(String source) {
        String code = source.replaceAll("(?s)/\\*.*?\\*/", "").replaceAll("//[^\n]*", "")
                .replaceAll("\"[^\"\n]*\"", "\"\"");
        for (String refused : REFUSED) {
            Matcher found = Pattern.compile(refused).matcher(code);
            Check.due("found " + refused, found.find(), false);
        }
        Matcher thrown = Pattern.compile("throw new (\\w+)\\(").matcher(code);
        while (thrown.find()) {
            Check.due("throws " + thrown.group(1), Arrays.asList("IllegalStateException", "IllegalArgumentException",
                    "IndexOutOfBoundsException", "UnsupportedOperationException", "NoSuchElementException")
                    .contains(thrown.group(1)), true);
        }
        methodsAreShort(source);
    }

    private static void methodsAreShort(String source) {
        int start = 0;
        String[] lines = source.split("\n");
        for (int i = 0; i < lines.length; i++) {
            if (lines[i].matches(" {4,8}\\S.*\\{") && !lines[i].contains(" class ")) {
                start = i;
            }
            if (lines[i].matches(" {4,8}\\}")) {
                Check.due("lines up to " + (i + 1), i - start <= 60, true);
            }
        }
    }
}
