import java.math.BigInteger;
import java.util.ArrayList;
import java.util.Arrays;
import java.util.Collection;
import java.util.List;
import java.util.NoSuchElementException;
import java.util.TreeSet;

/**
 * The document once more, slow and by other means than the class under test: trees of objects, texts as
 * Strings, loops over everything. It has the same calls, so that random runs can be put to both.
 */
final class ReferenceBench {
    /** A tree is its root. */
    static final class Node {
        int kind = -1;
        Node parent;
        final List<Node> children = new ArrayList<>();

        boolean isLeaf() {
            return kind >= 0;
        }

        void take(Node child) {
            child.parent = this;
            children.add(child);
        }

        void listTo(Collection<Node> list) {
            list.add(this);
            for (Node child : children) {
                child.listTo(list);
            }
        }

        List<Node> all() {
            List<Node> list = new ArrayList<>();
            listTo(list);
            return list;
        }

        int cluster() {
            int set = isLeaf() ? 1 << kind : 0;
            for (Node child : children) {
                set |= child.cluster();
            }
            return set;
        }

        TreeSet<Integer> clusters() {
            TreeSet<Integer> sets = new TreeSet<>();
            for (Node node : all()) {
                sets.add(node.cluster());
            }
            return sets;
        }

        int leaves() {
            int leaves = 0;
            for (Node node : all()) {
                leaves += node.isLeaf() ? 1 : 0;
            }
            return leaves;
        }

        boolean isPlain() {
            return leaves() == Integer.bitCount(cluster());
        }

        boolean isBinary() {
            for (Node node : all()) {
                if (node.children.size() > 2) {
                    return false;
                }
            }
            return true;
        }

        int height() {
            int below = 0;
            for (Node child : children) {
                below = Math.max(below, child.height());
            }
            return below + 1;
        }

        String text() {
            if (isLeaf()) {
                return String.valueOf((char) ('a' + kind));
            }
            List<String> texts = new ArrayList<>();
            for (Node child : children) {
                texts.add(child.text());
            }
            texts.sort(null);
            return "(" + String.join(",", texts) + ")";
        }

        boolean isOrLiesAbove(Node other) {
            for (Node at = other; at != null; at = at.parent) {
                if (at == this) {
                    return true;
                }
            }
            return false;
        }

        Node lowestAround(int set) {
            if ((cluster() & set) != set) {
                return null;
            }
            for (Node child : children) {
                Node lower = child.lowestAround(set);
                if (lower != null) {
                    return lower;
                }
            }
            return this;
        }

        /** Null if nothing is left. */
        Node cutTo(int set) {
            if (isLeaf()) {
                return (1 << kind & set) != 0 ? leaf(kind) : null;
            }
            Node left = new Node();
            for (Node child : children) {
                Node cut = child.cutTo(set);
                if (cut != null) {
                    left.take(cut);
                }
            }
            if (left.children.isEmpty()) {
                return null;
            }
            return left.children.size() == 1 ? left.children.get(0) : left;
        }
    }

    static Node leaf(int kind) {
        Node node = new Node();
        node.kind = kind;
        return node;
    }

    /** Of a text without blanks or faults. */
    static Node parse(String text) {
        return new Parser(text).parse();
    }

    private static final class Fault extends RuntimeException {
        final int number;
        final int place;

        Fault(int number, int place) {
            this.number = number;
            this.place = place;
        }
    }

    private static final class Parser {
        private final String text;
        private int at = 0;
        private int open = 0;
        private int leaves = 0;

        Parser(String text) {
            this.text = text;
        }

        Node parse() {
            Node root = node();
            if (next() != ';') {
                throw new Fault(1, at);
            }
            at++;
            if (next() != -1) {
                throw new Fault(1, at);
            }
            return root;
        }

        private int next() {
            while (at < text.length() && text.charAt(at) == ' ') {
                at++;
            }
            return at < text.length() ? text.charAt(at) : -1;
        }

        private Node node() {
            int next = next();
            if (next >= 'a' && next <= 'l') {
                if (leaves == 24) {
                    throw new Fault(2, at);
                }
                leaves++;
                at++;
                return leaf(next - 'a');
            }
            if (next != '(') {
                throw new Fault(1, at);
            }
            if (open == 23) {
                throw new Fault(2, at);
            }
            open++;
            at++;
            Node node = new Node();
            node.take(node());
            while (next() != ')' || node.children.size() < 2) {
                if (next() != ',') {
                    throw new Fault(1, at);
                }
                at++;
                node.take(node());
            }
            at++;
            open--;
            return node;
        }
    }

    private final Node[] shelves = new Node[8];
    private String tape = "";
    private String written = "";
    private int fault = 0;
    private int place = -1;
    private final List<int[]> triples = new ArrayList<>();
    private final List<Integer> signs = new ArrayList<>();
    private final int[][] states = new int[8][12];
    private final int[][] d = new int[12][12];
    private int n = 12;

    // ---- what must be

    private static void shelfIn(int shelf) {
        if (shelf < 0 || shelf > 7) {
            throw new IndexOutOfBoundsException();
        }
    }

    private static void kindIn(int... kinds) {
        for (int kind : kinds) {
            if (kind < 0 || kind > 11) {
                throw new IndexOutOfBoundsException();
            }
        }
    }

    private static void argument(boolean good) {
        if (!good) {
            throw new IllegalArgumentException();
        }
    }

    private static void fit(boolean good) {
        if (!good) {
            throw new IllegalStateException();
        }
    }

    private Node tree(int shelf) {
        fit(shelves[shelf] != null);
        return shelves[shelf];
    }

    private Node plain(int shelf) {
        fit(tree(shelf).isPlain());
        return shelves[shelf];
    }

    String textOn(int shelf) {
        return shelves[shelf].text() + ";";
    }

    // ---- the calls

    public int feed(int a, int b, int c, int d, int e) {
        if (tape.length() > 380) {
            return -1;
        }
        for (int number : new int[] {a, b, c, d, e}) {
            for (int i = 3; i >= 0; i--) {
                tape += (char) (number >> 8 * i & 255);
            }
        }
        return tape.length();
    }

    public boolean end(int n) {
        if (n < 0 || n > tape.length()) {
            return false;
        }
        tape = tape.substring(0, n);
        return true;
    }

    public int read(int shelf) {
        String text = tape;
        tape = "";
        shelfIn(shelf);
        fault = 0;
        place = -1;
        try {
            shelves[shelf] = new Parser(text).parse();
        } catch (Fault f) {
            fault = f.number;
            place = f.place;
        }
        argument(fault == 0);
        return shelves[shelf].leaves();
    }

    public int fault(int what) {
        return what == 0 ? fault : what == 1 ? place : -1;
    }

    public int write(int shelf) {
        shelfIn(shelf);
        written = tree(shelf).text() + ";";
        return written.length();
    }

    public int written(int i) {
        return i < 0 || i >= written.length() ? -1 : written.charAt(i);
    }

    public int again() {
        if (tape.length() + written.length() > 400) {
            return -1;
        }
        tape += written;
        return tape.length();
    }

    public boolean clear(int shelf) {
        shelfIn(shelf);
        boolean had = shelves[shelf] != null;
        shelves[shelf] = null;
        return had;
    }

    public int look(int shelf, int what) {
        shelfIn(shelf);
        Node t = tree(shelf);
        int[] answers = {t.leaves(), t.all().size(), t.cluster(), t.isPlain() ? 1 : 0, t.isBinary() ? 1 : 0,
            t.height()};
        if (what < 0 || what > 5) {
            throw new NoSuchElementException();
        }
        return answers[what];
    }

    public boolean has(int shelf, int cluster) {
        shelfIn(shelf);
        return plain(shelf).clusters().contains(cluster);
    }

    public int least(int shelf, int set) {
        shelfIn(shelf);
        Node found = plain(shelf).lowestAround(set);
        return set == 0 || found == null ? -1 : found.cluster();
    }

    /** Two are nearer, if the lowest node around them has not the third. */
    private static int relation(Node t, int a, int b, int c) {
        if ((t.lowestAround(1 << a | 1 << b).cluster() & 1 << c) == 0) {
            return 0;
        }
        if ((t.lowestAround(1 << a | 1 << c).cluster() & 1 << b) == 0) {
            return 1;
        }
        return (t.lowestAround(1 << b | 1 << c).cluster() & 1 << a) == 0 ? 2 : 3;
    }

    private static boolean hasAll(Node t, int... kinds) {
        for (int kind : kinds) {
            if ((t.cluster() >> kind & 1) == 0) {
                return false;
            }
        }
        return true;
    }

    public int nearer(int shelf, int a, int b, int c) {
        shelfIn(shelf);
        kindIn(a, b, c);
        Node t = plain(shelf);
        if (a == b || b == c || a == c || !hasAll(t, a, b, c)) {
            throw new NoSuchElementException();
        }
        return relation(t, a, b, c);
    }

    public int unlike(int shelf, int other) {
        shelfIn(shelf);
        shelfIn(other);
        TreeSet<Integer> one = plain(shelf).clusters();
        TreeSet<Integer> two = plain(other).clusters();
        TreeSet<Integer> both = new TreeSet<>(one);
        both.retainAll(two);
        return one.size() + two.size() - 2 * both.size();
    }

    public int alike(int shelf, int other) {
        shelfIn(shelf);
        shelfIn(other);
        Node one = plain(shelf);
        Node two = plain(other);
        int same = 0;
        for (int c = 0; c < 12; c++) {
            for (int b = 0; b < c; b++) {
                for (int a = 0; a < b; a++) {
                    if (hasAll(one, a, b, c) && hasAll(two, a, b, c)) {
                        same += relation(one, a, b, c) == relation(two, a, b, c) ? 1 : 0;
                    }
                }
            }
        }
        return same;
    }

    public int cut(int shelf, int set, int to) {
        shelfIn(shelf);
        shelfIn(to);
        Node cut = plain(shelf).cutTo(set);
        argument(cut != null);
        shelves[to] = cut;
        return cut.leaves();
    }

    /** The tree of a set whose clusters these are, among others; the set is one of them. */
    private static Node ofClusters(Collection<Integer> clusters, int set) {
        if (Integer.bitCount(set) == 1) {
            return leaf(Integer.numberOfTrailingZeros(set));
        }
        Node node = new Node();
        for (int part : new TreeSet<>(clusters)) {
            boolean inside = part != 0 && part != set && (part & ~set) == 0;
            for (int wider : clusters) {
                boolean between = wider != part && wider != set && (part & ~wider) == 0 && (wider & ~set) == 0;
                inside &= !between;
            }
            if (inside) {
                node.take(ofClusters(clusters, part));
            }
        }
        return node;
    }

    private int agree(int set, int to, boolean all) {
        shelfIn(to);
        argument(set > 0 && set < 256);
        List<Node> trees = new ArrayList<>();
        for (int s = 0; s < 8; s++) {
            if ((set >> s & 1) == 1) {
                trees.add(plain(s));
            }
        }
        List<Integer> kept = new ArrayList<>();
        for (Node t : trees) {
            fit(t.cluster() == trees.get(0).cluster());
        }
        for (int cluster = 1; cluster < 4096; cluster++) {
            int holders = 0;
            for (Node t : trees) {
                holders += t.lowestAround(cluster) != null && t.lowestAround(cluster).cluster() == cluster ? 1 : 0;
            }
            if (all ? holders == trees.size() : 2 * holders > trees.size()) {
                kept.add(cluster);
            }
        }
        shelves[to] = ofClusters(kept, trees.get(0).cluster());
        return kept.size();
    }

    public int strict(int set, int to) {
        return agree(set, to, true);
    }

    public int most(int set, int to) {
        return agree(set, to, false);
    }

    public int triple(int a, int b, int c) {
        kindIn(a, b, c);
        argument(a != b && b != c && a != c);
        if (triples.size() == 80) {
            throw new UnsupportedOperationException();
        }
        triples.add(new int[] {a, b, c});
        return triples.size();
    }

    public int untriple() {
        int were = triples.size();
        triples.clear();
        return were;
    }

    private static final class Clash extends RuntimeException {
        final int set;

        Clash(int set) {
            this.set = set;
        }
    }

    private Node joined(int set) {
        if (Integer.bitCount(set) == 1) {
            return leaf(Integer.numberOfTrailingZeros(set));
        }
        int[] group = new int[12];
        for (int k = 0; k < 12; k++) {
            group[k] = k;
        }
        for (int[] t : triples) {
            if ((set >> t[0] & set >> t[1] & set >> t[2] & 1) == 1) {
                int low = Math.min(group[t[0]], group[t[1]]);
                int high = Math.max(group[t[0]], group[t[1]]);
                for (int k = 0; k < 12; k++) {
                    group[k] = group[k] == high ? low : group[k];
                }
            }
        }
        Node node = new Node();
        for (int k = 0; k < 12; k++) {
            int part = 0;
            for (int j = 0; j < 12; j++) {
                part |= group[j] == k && (set >> j & 1) == 1 ? 1 << j : 0;
            }
            if (part == set) {
                throw new Clash(set);
            }
            if (part != 0) {
                node.take(joined(part));
            }
        }
        return node;
    }

    public int build(int set, int to) {
        shelfIn(to);
        argument(set >= 1 && set <= 4095);
        try {
            shelves[to] = joined(set);
            return 0;
        } catch (Clash clash) {
            return clash.set;
        }
    }

    public int shown(int shelf) {
        shelfIn(shelf);
        Node t = plain(shelf);
        int shown = 0;
        for (int[] one : triples) {
            shown += hasAll(t, one) && relation(t, one[0], one[1], one[2]) == 0 ? 1 : 0;
        }
        return shown;
    }

    public int sign(int set) {
        argument(set >= 0 && set <= 4095);
        if (signs.size() == 16) {
            throw new UnsupportedOperationException();
        }
        signs.add(set);
        return signs.size();
    }

    public int unsign() {
        int were = signs.size();
        signs.clear();
        return were;
    }

    private boolean against(int one, int two, int set) {
        boolean oneAlone = false;
        boolean twoAlone = false;
        boolean both = false;
        for (int k = 0; k < 12; k++) {
            if ((set >> k & 1) == 1) {
                boolean inOne = (one >> k & 1) == 1;
                boolean inTwo = (two >> k & 1) == 1;
                oneAlone |= inOne && !inTwo;
                twoAlone |= inTwo && !inOne;
                both |= inOne && inTwo;
            }
        }
        return oneAlone && twoAlone && both;
    }

    public int perfect(int set, int to) {
        shelfIn(to);
        argument(set >= 1 && set <= 4095);
        for (int i = 0; i < signs.size(); i++) {
            for (int j = 0; j < signs.size(); j++) {
                if (against(signs.get(i), signs.get(j), set)) {
                    return 16 * i + j + 1000;
                }
            }
        }
        TreeSet<Integer> clusters = new TreeSet<>();
        clusters.add(set);
        for (int k = 0; k < 12; k++) {
            clusters.add(set & 1 << k);
        }
        for (int sign : signs) {
            clusters.add(sign & set);
        }
        clusters.remove(0);
        shelves[to] = ofClusters(clusters, set);
        return 0;
    }

    public void state(int row, int kind, int state) {
        kindIn(kind);
        argument(row >= 0 && row < 8 && state >= 0 && state < 4);
        states[row][kind] = state;
    }

    private int changesBelow(Node node, int own, int[] row) {
        if (node.isLeaf()) {
            return row[node.kind] == own ? 0 : 100;
        }
        int all = 0;
        for (Node child : node.children) {
            int fewest = 100;
            for (int s = 0; s < 4; s++) {
                boolean possible = !child.isLeaf() || row[child.kind] == s;
                if (possible) {
                    fewest = Math.min(fewest, (s == own ? 0 : 1) + memo(child, s, row));
                }
            }
            all += fewest;
        }
        return all;
    }

    private final java.util.Map<Node, int[]> memory = new java.util.IdentityHashMap<>();

    private int memo(Node node, int own, int[] row) {
        int[] known = memory.computeIfAbsent(node, k -> new int[] {-1, -1, -1, -1});
        if (known[own] < 0) {
            known[own] = changesBelow(node, own, row);
        }
        return known[own];
    }

    public int changes(int shelf, int row) {
        shelfIn(shelf);
        Node t = tree(shelf);
        argument(row >= 0 && row < 8);
        memory.clear();
        int fewest = 100;
        for (int s = 0; s < 4; s++) {
            fewest = Math.min(fewest, memo(t, s, states[row]));
        }
        return fewest;
    }

    public void kinds(int n) {
        argument(n >= 2 && n <= 12);
        this.n = n;
    }

    public void distance(int a, int b, int d) {
        kindIn(a, b);
        argument(a != b && d >= 0 && d <= 100000);
        this.d[a][b] = d;
        this.d[b][a] = d;
    }

    private static boolean topTwoEqual(int... three) {
        Arrays.sort(three);
        return three[1] == three[2];
    }

    public boolean fourPoints() {
        for (int i = 0; i < n; i++) {
            for (int j = 0; j < n; j++) {
                for (int k = 0; k < n; k++) {
                    for (int l = 0; l < n; l++) {
                        if (!topTwoEqual(d[i][j] + d[k][l], d[i][k] + d[j][l], d[i][l] + d[j][k])) {
                            return false;
                        }
                    }
                }
            }
        }
        return true;
    }

    public boolean clock(int to) {
        shelfIn(to);
        TreeSet<Integer> heights = new TreeSet<>();
        heights.add(0);
        for (int i = 0; i < n; i++) {
            for (int j = 0; j < n; j++) {
                heights.add(d[i][j]);
                for (int k = 0; k < n; k++) {
                    if (i != j && j != k && i != k && !topTwoEqual(d[i][j], d[i][k], d[j][k])) {
                        return false;
                    }
                }
            }
        }
        TreeSet<Integer> clusters = new TreeSet<>();
        for (int i = 0; i < n; i++) {
            clusters.add(1 << i);
            for (int h : heights) {
                int set = 1 << i;
                for (int j = 0; j < n; j++) {
                    set |= j != i && d[i][j] <= h ? 1 << j : 0;
                }
                clusters.add(set);
            }
        }
        shelves[to] = ofClusters(clusters, (1 << n) - 1);
        return true;
    }

    /** A node that is to be joined: its distances to others stand in a map; doubles hold these halves exactly. */
    private static final class Joint {
        final Node node;
        final java.util.Map<Joint, Double> far = new java.util.IdentityHashMap<>();

        Joint(Node node) {
            this.node = node;
        }

        int leastKind() {
            return Integer.numberOfTrailingZeros(node.cluster());
        }

        double farFromAll(List<Joint> live) {
            double sum = 0;
            for (Joint other : live) {
                sum += other == this ? 0 : far.get(other);
            }
            return sum;
        }
    }

    private static double[] score(Joint i, Joint j, List<Joint> live) {
        double q = (live.size() - 2) * i.far.get(j) - i.farFromAll(live) - j.farFromAll(live);
        return new double[] {q, Math.min(i.leastKind(), j.leastKind()), Math.max(i.leastKind(), j.leastKind())};
    }

    public void nearest(int to) {
        shelfIn(to);
        List<Joint> live = new ArrayList<>();
        for (int i = n - 1; i >= 0; i--) {
            Joint joint = new Joint(leaf(i));
            for (Joint other : live) {
                joint.far.put(other, (double) d[i][other.node.kind]);
                other.far.put(joint, (double) d[i][other.node.kind]);
            }
            live.add(joint);
        }
        while (live.size() > 2) {
            Joint one = null;
            Joint two = null;
            double[] best = null;
            for (Joint i : live) {
                for (Joint j : live) {
                    if (i != j && (best == null || Arrays.compare(score(i, j, live), best) < 0)) {
                        best = score(i, j, live);
                        one = i;
                        two = j;
                    }
                }
            }
            live.remove(one);
            live.remove(two);
            Node node = new Node();
            node.take(one.node);
            node.take(two.node);
            Joint joint = new Joint(node);
            for (Joint k : live) {
                double half = (one.far.get(k) + two.far.get(k) - one.far.get(two)) / 2;
                joint.far.put(k, half);
                k.far.put(joint, half);
            }
            live.add(0, joint);
        }
        Node root = new Node();
        root.take(live.get(0).node);
        root.take(live.get(1).node);
        shelves[to] = root;
    }

    static boolean isDoubling(Node m, Node x, Node y) {
        if (x == m || y == m) {
            return true;
        }
        for (Node child : m.children) {
            if (child.isOrLiesAbove(x) && child.isOrLiesAbove(y)) {
                return true;
            }
        }
        return false;
    }

    static int lossesOnWay(Node m, Node x, boolean doubling) {
        if (x == m) {
            return 0;
        }
        int between = 0;
        for (Node at = x.parent; at != m; at = at.parent) {
            between++;
        }
        return between + (doubling ? 1 : 0);
    }

    /** Of each node told to: doublings and losses as one number; absent if it cannot be told so. */
    private static java.util.Map<Node, Integer> layings(Node g, List<Node> targets) {
        java.util.Map<Node, Integer> costs = new java.util.IdentityHashMap<>();
        if (g.isLeaf()) {
            for (Node t : targets) {
                if (t.isLeaf() && t.kind == g.kind) {
                    costs.put(t, 0);
                }
            }
            return costs;
        }
        java.util.Map<Node, Integer> one = layings(g.children.get(0), targets);
        java.util.Map<Node, Integer> two = layings(g.children.get(1), targets);
        for (Node m : targets) {
            for (Node x : one.keySet()) {
                for (Node y : two.keySet()) {
                    if (m.isOrLiesAbove(x) && m.isOrLiesAbove(y)) {
                        boolean doubling = isDoubling(m, x, y);
                        int cost = one.get(x) + two.get(y) + (doubling ? 1000000 : 0)
                                + lossesOnWay(m, x, doubling) + lossesOnWay(m, y, doubling);
                        costs.merge(m, cost, Math::min);
                    }
                }
            }
        }
        return costs;
    }

    private int laying(int genes, int shelf) {
        shelfIn(genes);
        shelfIn(shelf);
        Node g = tree(genes);
        Node k = plain(shelf);
        fit(g.isBinary() && k.isBinary() && (g.cluster() & ~k.cluster()) == 0);
        int least = Integer.MAX_VALUE;
        for (int cost : layings(g, k.all()).values()) {
            least = Math.min(least, cost);
        }
        return least;
    }

    public int doublings(int genes, int shelf) {
        return laying(genes, shelf) / 1000000;
    }

    public int losses(int genes, int shelf) {
        return laying(genes, shelf) % 1000000;
    }

    /** All rows, less what each node must be ahead of: n! by the numbers of nodes with children below each. */
    public long orders(int shelf) {
        shelfIn(shelf);
        BigInteger rows = BigInteger.ONE;
        BigInteger parts = BigInteger.ONE;
        int inner = 0;
        for (Node node : tree(shelf).all()) {
            if (!node.isLeaf()) {
                inner++;
                rows = rows.multiply(BigInteger.valueOf(inner));
                int below = 0;
                for (Node other : node.all()) {
                    below += other.isLeaf() ? 0 : 1;
                }
                parts = parts.multiply(BigInteger.valueOf(below));
            }
        }
        return rows.divide(parts).longValue();
    }

    public int count(int what) {
        int full = 0;
        for (int s = 0; s < 8; s++) {
            full |= shelves[s] != null ? 1 << s : 0;
        }
        int[] answers = {full, triples.size(), signs.size(), n, tape.length(), written.length()};
        return what < 0 || what > 5 ? -1 : answers[what];
    }
}
