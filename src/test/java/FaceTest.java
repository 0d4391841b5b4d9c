import java.io.IOException;
import java.lang.reflect.InvocationTargetException;
import java.lang.reflect.Method;
import java.nio.file.Files;
import java.nio.file.Path;
import java.util.Arrays;
import java.util.Random;
import java.util.regex.Matcher;
import java.util.regex.Pattern;

/** The document's public face and the heads of its promises against the class, word by word. */
public final class FaceTest {
    private static final Pattern FACE = Pattern.compile("## The public face\\s+```java\n(.*?)```", Pattern.DOTALL);
    private static final Pattern HEAD = Pattern.compile("\n## Promise \\d+: [^\n]*\n\n`([^`]*)`:");
    private static final int PROMISES = 36;
    private static final int ROUNDS = 200;
    private static final int MOST_CALLS = 512;
    private static final int[] WILD = {-1, 0, 1, 2, 3, 7, 8, 11, 12, 31, 32, 255, 256, 4095, 4096, 100000, 100001,
        Integer.MIN_VALUE, Integer.MAX_VALUE};

    public static void main(String[] args) throws IOException {
        Path root = Path.of(args.length > 0 ? args[0] : ".");
        String source = onOneLine(Files.readString(root.resolve("src/main/java/LineageBench.java")));
        Path document = root.resolve("../shared/DOC.md");
        if (Files.exists(document)) {
            String text = Files.readString(document);
            asInTheFace(text, source);
            asInTheHeads(text, source);
        } else {
            System.out.println("no document at " + document + ": its face is not looked for");
        }
        for (int round = 0; round < ROUNDS; round++) {
            wildCalls(new Random(round), furnished(round));
        }
        Check.close();
    }

    private static String onOneLine(String text) {
        return text.replaceAll("\\s+", " ");
    }

    private static void asInTheFace(String document, String source) {
        Matcher face = FACE.matcher(document);
        Check.due("the document has a face", face.find(), true);
        int lines = 0;
        for (String line : face.group(1).split("\n")) {
            if (line.startsWith("    public")) {
                lines++;
                Check.due("declared: " + line.strip(), isDeclared(line.strip(), source), true);
            } else if (line.startsWith("public")) {
                Check.due("declared: " + line, source.contains(line), true);
            }
        }
        Check.due("members of the face, and the constant", lines, PROMISES + 1);
        Check.due("public words of the class", source.split("\\bpublic ", -1).length - 1, PROMISES + 2);
    }

    private static void asInTheHeads(String document, String source) {
        Matcher head = HEAD.matcher(document);
        int heads = 0;
        while (head.find()) {
            heads++;
            String declaration = "public " + head.group(1) + ";";
            Check.due("declared: " + head.group(1), isDeclared(declaration, source), true);
        }
        Check.due("promises", heads, PROMISES);
    }

    private static boolean isDeclared(String line, String source) {
        return source.contains(" " + (line.contains("=") ? line : line.replace(";", " {")));
    }

    /** One bench in four has nothing at all. */
    private static LineageBench furnished(int round) {
        if (round % 4 == 0) {
            return new LineageBench();
        }
        LineageBench x = Benches.withTrees("((a,b),c);", "(a,a,b);", "(((a,b),c),(d,e));", "a;", "", "(a,(b,c));",
                "((a,b),(a,c));", "(l,(a,(b,c)));");
        Benches.addTriples(x, "abc", "bcd", "kla");
        for (int i = 0; i < round % 4 * 5; i++) {
            x.sign(3 << i % 11);
        }
        x.distance(0, 1, 5);
        x.write(7);
        return x;
    }

    private static void wildCalls(Random random, LineageBench x) {
        Method[] methods = LineageBench.class.getDeclaredMethods();
        Arrays.sort(methods, (m, n) -> m.getName().compareTo(n.getName()));
        for (int made = 70; made < MOST_CALLS; made++) {
            Method method = methods[random.nextInt(methods.length)];
            if (java.lang.reflect.Modifier.isPublic(method.getModifiers())) {
                Object[] numbers = new Object[method.getParameterCount()];
                for (int i = 0; i < numbers.length; i++) {
                    numbers[i] = random.nextBoolean() ? WILD[random.nextInt(WILD.length)] : random.nextInt(8);
                }
                String thrown = thrownBy(x, method, numbers);
                Check.due(method.getName() + Arrays.toString(numbers) + " throws " + thrown,
                        thrown.isEmpty() || names(method, thrown), true);
            }
        }
    }

    private static String thrownBy(LineageBench x, Method method, Object[] numbers) {
        try {
            method.invoke(x, numbers);
            return "";
        } catch (InvocationTargetException e) {
            return e.getCause().getClass().getName();
        } catch (IllegalAccessException e) {
            throw new IllegalStateException(e);
        }
    }

    /** The very class: what the machine throws is often a class below it. */
    private static boolean names(Method method, String thrown) {
        for (Class<?> named : method.getExceptionTypes()) {
            if (named.getName().equals(thrown)) {
                return true;
            }
        }
        return false;
    }
}
