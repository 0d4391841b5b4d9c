import java.io.IOException;
import java.lang.reflect.InvocationTargetException;
import java.lang.reflect.Method;
import java.nio.file.Files;
import java.nio.file.Path;
import java.util.regex.Matcher;
import java.util.regex.Pattern;

/** The examples of README.md: each line is run, and must answer what stands behind it. */
public final class ReadmeTest {
    private static final Pattern BLOCK = Pattern.compile("```java\n(.*?)```", Pattern.DOTALL);
    private static final Pattern CALL = Pattern.compile("x\\.(\\w+)\\(([-0-9, ]*)\\);(?: +// (.*))?");
    private static final Pattern READ = Pattern.compile("read\\(x, (\\d), \"([^\"]*)\"\\); +// (.*)");
    private static final Pattern WRITTEN = Pattern.compile("written\\(x, (\\d)\\); +// \"([^\"]*)\"");
    private static final Pattern ANSWER = Pattern.compile("(-?\\d+|true|false|throws \\w+)\\b.*");

    private static LineageBench x;

    public static void main(String[] args) throws IOException {
        Path root = Path.of(args.length > 0 ? args[0] : ".");
        String readme = Files.readString(root.resolve("README.md"));
        String helpers = Files.readString(root.resolve("src/test/java/support/Texts.java"));
        int examples = 0;
        Matcher block = BLOCK.matcher(readme);
        while (block.find()) {
            if (block.group(1).startsWith("static ")) {
                sameHelpers(block.group(1), helpers);
            } else {
                examples++;
                runLines(block.group(1));
            }
        }
        Check.due("there are examples", examples > 0, true);
        namesAllCalls(readme);
        Check.close();
    }

    private static void sameHelpers(String block, String helpers) {
        for (String method : block.strip().split("\n\n")) {
            String indented = "    " + method.replace("\n", "\n    ") + "\n";
            Check.due(method + " is in Texts", helpers.contains(indented), true);
        }
    }

    private static void runLines(String block) {
        x = null;
        for (String line : block.split("\n")) {
            if (line.equals("LineageBench x = new LineageBench();")) {
                x = new LineageBench();
            } else {
                runLine(line);
            }
        }
    }

    private static void runLine(String line) {
        Matcher call = CALL.matcher(line);
        Matcher read = READ.matcher(line);
        Matcher written = WRITTEN.matcher(line);
        if (call.matches()) {
            String got = answer(call.group(1), call.group(2));
            Check.due(line, got, got.equals("null") ? "null" : answerIn(String.valueOf(call.group(3))));
        } else if (read.matches()) {
            int got = Texts.read(x, Integer.parseInt(read.group(1)), read.group(2));
            Check.due(line, String.valueOf(got), answerIn(read.group(3)));
        } else if (written.matches()) {
            Check.due(line, Texts.written(x, Integer.parseInt(written.group(1))), written.group(2));
        } else {
            Check.due("a line of README.md that this test cannot run", line, "");
        }
    }

    private static String answerIn(String words) {
        Matcher answer = ANSWER.matcher(words);
        return answer.matches() ? answer.group(1) : "no answer is told";
    }

    /** A call without an answer of its own answers null here. */
    private static String answer(String name, String told) {
        String[] words = told.isEmpty() ? new String[0] : told.split(", ");
        Object[] numbers = new Object[words.length];
        for (int i = 0; i < words.length; i++) {
            numbers[i] = Integer.parseInt(words[i]);
        }
        try {
            return String.valueOf(callOf(name).invoke(x, numbers));
        } catch (InvocationTargetException e) {
            return "throws " + e.getCause().getClass().getSimpleName();
        } catch (IllegalAccessException e) {
            throw new IllegalStateException(e);
        }
    }

    private static Method callOf(String name) {
        for (Method method : LineageBench.class.getMethods()) {
            if (method.getName().equals(name)) {
                return method;
            }
        }
        throw new IllegalStateException("no call " + name);
    }

    private static void namesAllCalls(String readme) {
        for (Method method : LineageBench.class.getMethods()) {
            if (method.getDeclaringClass() == LineageBench.class) {
                String row = "\\| (?:`[^`]*`, )*`" + method.getName() + "\\([^)]*\\)`";
                Check.due(method.getName() + " is told of", Pattern.compile(row).matcher(readme).find(), true);
            }
        }
    }
}
