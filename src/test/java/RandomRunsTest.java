import java.lang.reflect.InvocationTargetException;
import java.lang.reflect.Method;
import java.util.ArrayList;
import java.util.Arrays;
import java.util.Comparator;
import java.util.List;
import java.util.Random;

/** All promises: random runs of up to 512 calls, each answer against that of ReferenceBench. */
public final class RandomRunsTest {
    private static final int RUNS = 1500;
    /** What later calls answer is free. */
    private static final int MOST_CALLS = 512;
    private static final int[] ODD = {-1, 8, 12, 4096, 256, 13, Integer.MIN_VALUE, Integer.MAX_VALUE, 1 << 12, -4095};

    private final Random random;
    private final LineageBench x = new LineageBench();
    private final ReferenceBench y = new ReferenceBench();
    private final List<Method> calls;
    private final StringBuilder log = new StringBuilder();
    private int made = 0;
    private boolean same = true;

    private RandomRunsTest(long seed, List<Method> calls) {
        this.random = new Random(seed);
        this.calls = calls;
    }

    public static void main(String[] args) {
        List<Method> calls = new ArrayList<>();
        for (Method method : LineageBench.class.getDeclaredMethods()) {
            if (java.lang.reflect.Modifier.isPublic(method.getModifiers())) {
                calls.add(method);
            }
        }
        calls.sort(Comparator.comparing(Method::getName));
        Check.due("calls of the face", calls.size(), 35);
        for (int run = 0; run < RUNS; run++) {
            new RandomRunsTest(run, calls).run(run);
        }
        Check.close();
    }

    private void run(int number) {
        int length = 40 + random.nextInt(360);
        while (made < length && same) {
            int choice = random.nextInt(22);
            if (choice < 6) {
                readSomething();
            } else if (choice == 6) {
                tellDistances();
            } else if (choice == 7) {
                tellTriples();
            } else if (choice == 8) {
                tellSigns();
            } else if (choice == 9) {
                tellStates();
            } else if (choice == 10) {
                layGenes();
            } else if (choice == 11) {
                letAgree();
            } else {
                anyCall();
            }
        }
        for (int s = 0; s < 8 && same; s++) {
            both("write", s);
            both("count", 5);
            for (int i = 0; i < y.count(5) && same; i++) {
                both("written", i);
            }
        }
        if (!same) {
            System.out.println("run " + number + ":\n" + log);
        }
        Check.due("run " + number, same, true);
    }

    private void anyCall() {
        Method method = calls.get(random.nextInt(calls.size()));
        String name = method.getName();
        if (name.equals("untriple") || name.equals("unsign")) {
            if (random.nextInt(3) != 0) {
                return;
            }
        }
        int[] args = new int[method.getParameterCount()];
        for (int i = 0; i < args.length; i++) {
            args[i] = argument(name, i);
        }
        both(name, args);
    }

    private int argument(String name, int i) {
        if (random.nextInt(25) == 0) {
            return ODD[random.nextInt(ODD.length)];
        }
        switch (name) {
            case "feed":
                return random.nextInt();
            case "end":
            case "written":
                return random.nextInt(30);
            case "look":
            case "count":
                return i == 0 && name.equals("look") ? random.nextInt(8) : random.nextInt(7);
            case "fault":
                return random.nextInt(2);
            case "has":
            case "least":
                return i == 0 ? random.nextInt(8) : random.nextInt(8) == 0 ? random.nextInt(4096) : fewBits();
            case "cut":
                return i == 1 ? random.nextInt(4096) : random.nextInt(8);
            case "strict":
            case "most":
                return i == 0 ? shelfBits() : random.nextInt(8);
            case "build":
            case "perfect":
                return i == 0 ? random.nextInt(4096) : random.nextInt(8);
            case "sign":
                return random.nextInt(4096);
            case "state":
                return i == 0 ? random.nextInt(8) : i == 1 ? random.nextInt(12) : random.nextInt(4);
            case "distance":
                return i == 2 ? random.nextInt(9) : random.nextInt(12);
            case "kinds":
                return 1 + random.nextInt(13);
            case "nearer":
                return i == 0 ? random.nextInt(8) : random.nextInt(6);
            case "triple":
                return random.nextInt(12);
            default:
                return random.nextInt(8);
        }
    }

    private int fewBits() {
        return 1 << random.nextInt(12) | 1 << random.nextInt(12);
    }

    private int shelfBits() {
        return random.nextInt(3) == 0 ? random.nextInt(256) : 1 << random.nextInt(8) | 1 << random.nextInt(8);
    }

    private void readSomething() {
        String text;
        int choice = random.nextInt(10);
        if (choice < 4) {
            text = plainText(random.nextInt(4) == 0 ? 1 + random.nextInt(12) : 5, choice < 3);
        } else if (choice < 6) {
            text = plainText(12, choice == 4);
        } else {
            text = anyText(1 + random.nextInt(random.nextBoolean() ? 8 : 25), random.nextInt(5) != 0);
        }
        text = blanks(text + ";");
        if (random.nextInt(5) == 0) {
            text = spoiled(text);
        }
        readText(text.substring(0, Math.min(400, text.length())), random.nextInt(30) == 0 ? 8 : random.nextInt(8));
        both("fault", 0);
        both("fault", 1);
    }

    private void readText(String text, int shelf) {
        both("end", 0);
        for (int i = 0; i < text.length(); i += 20) {
            both("feed", Texts.four(text, i), Texts.four(text, i + 4), Texts.four(text, i + 8),
                    Texts.four(text, i + 12), Texts.four(text, i + 16));
        }
        both("end", text.length());
        both("read", shelf);
    }

    private void layGenes() {
        int kinds = 2 + random.nextInt(11);
        int shelf = random.nextInt(4);
        int genes = 4 + random.nextInt(4);
        readText(plainText(kinds, random.nextInt(9) != 0) + ";", shelf);
        List<String> parts = new ArrayList<>();
        int leaves = 1 + random.nextInt(24);
        for (int i = 0; i < leaves; i++) {
            parts.add(String.valueOf((char) ('a' + random.nextInt(kinds))));
        }
        readText(grown(parts, random.nextInt(9) != 0) + ";", genes);
        both("doublings", genes, shelf);
        both("losses", genes, shelf);
        both("orders", genes);
        both("look", genes, 5);
    }

    /** Trees that share much: in some two kinds have changed places. */
    private void letAgree() {
        int kinds = 3 + random.nextInt(10);
        int trees = 2 + random.nextInt(4);
        String stem = plainText(kinds, random.nextBoolean());
        for (int s = 0; s < trees; s++) {
            String text = stem;
            if (random.nextInt(3) != 0) {
                char one = (char) ('a' + random.nextInt(kinds));
                char two = (char) ('a' + random.nextInt(kinds));
                text = stem.replace(one, '#').replace(two, one).replace('#', two);
            }
            readText(text + ";", s);
        }
        both("strict", (1 << trees) - 1, 6);
        both("most", (1 << trees) - 1, 7);
        for (int s = 0; s < trees; s++) {
            both("unlike", s, 7);
            both("alike", 6, s);
            both("shown", s);
            both("least", s, fewBits());
            both("has", 7, same && made < MOST_CALLS ? y.least(s, 3) : 0);
            both("nearer", s, random.nextInt(kinds), random.nextInt(kinds), random.nextInt(kinds));
        }
        both("cut", random.nextInt(trees), random.nextInt(4096), random.nextInt(8));
    }

    private String plainText(int kinds, boolean binary) {
        List<String> parts = new ArrayList<>();
        for (int k = 0; k < kinds; k++) {
            parts.add(String.valueOf((char) ('a' + k)));
        }
        return grown(parts, binary);
    }

    private String anyText(int leaves, boolean binary) {
        List<String> parts = new ArrayList<>();
        int kinds = 1 + random.nextInt(12);
        for (int i = 0; i < leaves; i++) {
            parts.add(String.valueOf((char) ('a' + random.nextInt(kinds))));
        }
        return grown(parts, binary);
    }

    private String grown(List<String> parts, boolean binary) {
        boolean chain = random.nextInt(4) == 0;
        while (parts.size() > 1) {
            int some = binary ? 2 : Math.min(parts.size(), 2 + random.nextInt(3));
            String node = "(" + parts.remove(chain ? parts.size() - 1 : random.nextInt(parts.size()));
            for (int i = 1; i < some; i++) {
                node += "," + parts.remove(random.nextInt(parts.size()));
            }
            parts.add(node + ")");
        }
        return parts.get(0);
    }

    private String blanks(String text) {
        if (random.nextInt(3) != 0) {
            return text;
        }
        StringBuilder wider = new StringBuilder();
        for (char c : text.toCharArray()) {
            wider.append(" ".repeat(random.nextInt(3))).append(c);
        }
        return wider.append(" ".repeat(random.nextInt(3))).toString();
    }

    private String spoiled(String text) {
        int at = random.nextInt(text.length() + 1);
        String some = random.nextInt(4) == 0 ? "(".repeat(1 + random.nextInt(24))
                : String.valueOf("(),;aglm \0\u00ff".charAt(random.nextInt(11)));
        return text.substring(0, at) + some + text.substring(Math.min(text.length(), at + random.nextInt(3)));
    }

    /** A clock's, a tree's, or small numbers with many ties. */
    private void tellDistances() {
        int n = 2 + random.nextInt(7);
        both("kinds", n);
        int[] height = new int[n];
        int[] group = new int[n];
        int[][] d = new int[n][n];
        for (int k = 0; k < n; k++) {
            group[k] = k;
        }
        int now = 0;
        for (int step = 1; step < n; step++) {
            now += random.nextInt(4);
            int one = group[random.nextInt(n)];
            int two = group[random.nextInt(n)];
            for (int a = 0; a < n; a++) {
                for (int b = 0; b < n; b++) {
                    if (one != two && group[a] == one && group[b] == two) {
                        d[a][b] = 2 * now;
                        d[b][a] = 2 * now;
                    }
                }
            }
            for (int k = 0; k < n; k++) {
                group[k] = group[k] == two ? one : group[k];
            }
        }
        int way = random.nextInt(3);
        for (int a = 0; a < n; a++) {
            height[a] = way == 1 ? random.nextInt(5) : 0;
            for (int b = 0; b < a; b++) {
                int between = group[a] == group[b] ? d[a][b] : 2 * now + 2;
                both("distance", a, b, way == 2 ? random.nextInt(4) : between + height[a] + height[b]);
            }
        }
        both("fourPoints");
        both("clock", random.nextInt(8));
        both("nearest", random.nextInt(8));
    }

    /** Those of one order of kinds, so that many sets can be joined, and at times one against it. */
    private void tellTriples() {
        if (random.nextBoolean()) {
            both("untriple");
        }
        int kinds = 3 + random.nextInt(10);
        int some = random.nextInt(25);
        for (int i = 0; i < some; i++) {
            int[] three = {random.nextInt(kinds), random.nextInt(kinds), random.nextInt(kinds)};
            if (random.nextInt(12) != 0) {
                Arrays.sort(three);
            }
            both("triple", three);
        }
        both("build", (1 << kinds) - 1, random.nextInt(8));
        both("build", 1 + random.nextInt(4095), random.nextInt(8));
    }

    private void tellSigns() {
        both("unsign");
        int some = random.nextInt(6);
        for (int i = 0; i < some; i++) {
            int from = random.nextInt(12);
            both("sign", random.nextInt(5) == 0 ? fewBits() : 4095 >> from & -1 << random.nextInt(6) & 4095);
        }
        both("perfect", 1 + random.nextInt(4095), random.nextInt(8));
        both("perfect", fewBits() | fewBits(), random.nextInt(8));
    }

    private void tellStates() {
        int row = random.nextInt(8);
        for (int k = 0; k < 12; k++) {
            both("state", row, k, random.nextInt(4));
        }
        both("changes", random.nextInt(8), row);
    }

    private void both(String name, int... args) {
        if (!same || made == MOST_CALLS) {
            return;
        }
        made++;
        String got = answer(x, name, args);
        String want = answer(y, name, args);
        log.append(name).append(Arrays.toString(args)).append(' ').append(want).append('\n');
        if (!got.equals(want)) {
            same = false;
            log.append("but it answered ").append(got).append('\n');
        }
    }

    private static String answer(Object target, String name, int[] args) {
        Class<?>[] types = new Class<?>[args.length];
        Arrays.fill(types, int.class);
        Object[] boxed = new Object[args.length];
        for (int i = 0; i < args.length; i++) {
            boxed[i] = args[i];
        }
        try {
            return String.valueOf(target.getClass().getDeclaredMethod(name, types).invoke(target, boxed));
        } catch (InvocationTargetException e) {
            return e.getCause().getClass().getName();
        } catch (ReflectiveOperationException e) {
            throw new AssertionError(e);
        }
    }
}
