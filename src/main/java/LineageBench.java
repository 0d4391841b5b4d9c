import java.util.NoSuchElementException;

/**
 * A bench for lineages. DOC.md tells what each call promises; words in capitals are its terms.
 *
 * All rows are made with the object and used again, so that a long run of calls makes nothing
 * but the exceptions that it throws.
 */
public final class LineageBench {
    public static final int NONE = -1;

    private static final int KIND_COUNT = 12;
    private static final int ALL_KINDS = (1 << KIND_COUNT) - 1;
    private static final int SHELF_COUNT = 8;
    private static final int ALL_SHELVES = (1 << SHELF_COUNT) - 1;
    private static final int MOST_LEAVES = 24;
    private static final int MOST_NODES = 2 * MOST_LEAVES - 1;
    private static final int MOST_OPEN = 23;
    private static final int TAPE_ROOM = 400;
    private static final int FEED_BYTES = 20;
    /** 24 letters, 23 pairs of brackets, 23 commas and the end: no TREE needs more. */
    private static final int WRITTEN_ROOM = 94;
    private static final int MOST_TRIPLES = 80;
    private static final int MOST_SIGNS = 16;
    private static final int ROW_COUNT = 8;
    private static final int STATE_COUNT = 4;
    private static final int FEWEST_COUNTING = 2;
    private static final int FARTHEST = 100000;

    private static final int BLANK = 32;
    private static final int OPENING = 40;
    private static final int CLOSING = 41;
    private static final int COMMA = 44;
    private static final int ENDING = 59;
    private static final int LETTER_A = 97;

    private final Tape tape = new Tape();
    private final Reader reader = new Reader();
    private final Writer writer = new Writer();
    private final Tree[] trees = new Tree[SHELF_COUNT];
    private final Family family = new Family();
    private final Triples triples = new Triples();
    private final Signs signs = new Signs();
    private final int[] states = new int[ROW_COUNT * KIND_COUNT];
    private final Tallies tallies = new Tallies();
    private final Distances distances = new Distances();
    private final Laying laying = new Laying();
    /** A new TREE grows here, so that a SHELF keeps its old one until the new one stands. */
    private Tree spare = new Tree();

    public LineageBench() {
        for (int s = 0; s < SHELF_COUNT; s++) {
            trees[s] = new Tree();
        }
    }

    // ---- the TAPE, and TREES read and WRITTEN

    public int feed(int a, int b, int c, int d, int e) {
        if (!tape.hasRoomFor(FEED_BYTES)) {
            return NONE;
        }
        tape.addNumber(a);
        tape.addNumber(b);
        tape.addNumber(c);
        tape.addNumber(d);
        tape.addNumber(e);
        return tape.length;
    }

    public boolean end(int n) {
        if (n < 0 || n > tape.length) {
            return false;
        }
        tape.length = n;
        return true;
    }

    public int read(int shelf) throws IndexOutOfBoundsException, IllegalArgumentException {
        int length = tape.length;
        // the TAPE is used up however the call ends; its bytes stay to be read
        tape.length = 0;
        needShelf(shelf);
        reader.examine(tape, length);
        if (reader.faultFound != 0) {
            throw new IllegalArgumentException("the tape has a fault");
        }
        reader.growTree(tape, length, spare);
        settle(shelf);
        return trees[shelf].leaves;
    }

    public int fault(int what) {
        if (what == 0) {
            return reader.faultFound;
        }
        return what == 1 ? reader.faultPlace : NONE;
    }

    public int write(int shelf) throws IndexOutOfBoundsException, IllegalStateException {
        needShelf(shelf);
        writer.compose(treeOn(shelf));
        return writer.length;
    }

    public int written(int i) {
        return i >= 0 && i < writer.length ? writer.bytes[i] : NONE;
    }

    public int again() {
        if (!tape.hasRoomFor(writer.length)) {
            return NONE;
        }
        for (int i = 0; i < writer.length; i++) {
            tape.addByte(writer.bytes[i]);
        }
        return tape.length;
    }

    public boolean clear(int shelf) throws IndexOutOfBoundsException {
        needShelf(shelf);
        boolean had = !trees[shelf].isNone();
        trees[shelf].makeNone();
        return had;
    }

    // ---- questions about TREES

    public int look(int shelf, int what)
            throws IndexOutOfBoundsException, IllegalStateException, NoSuchElementException {
        needShelf(shelf);
        Tree tree = treeOn(shelf);
        switch (what) {
            case 0:
                return tree.leaves;
            case 1:
                return tree.nodes;
            case 2:
                return tree.allKinds();
            case 3:
                return tree.isPlain() ? 1 : 0;
            case 4:
                return tree.isBinary() ? 1 : 0;
            case 5:
                return tree.height();
            default:
                throw new NoSuchElementException("nothing such to look at");
        }
    }

    public boolean has(int shelf, int cluster) throws IndexOutOfBoundsException, IllegalStateException {
        needShelf(shelf);
        return plainTreeOn(shelf).hasCluster(cluster);
    }

    public int least(int shelf, int set) throws IndexOutOfBoundsException, IllegalStateException {
        needShelf(shelf);
        return plainTreeOn(shelf).leastClusterAround(set);
    }

    public int nearer(int shelf, int a, int b, int c)
            throws IndexOutOfBoundsException, IllegalStateException, NoSuchElementException {
        needShelf(shelf);
        needKind(a);
        needKind(b);
        needKind(c);
        Tree tree = plainTreeOn(shelf);
        int three = 1 << a | 1 << b | 1 << c;
        if (Integer.bitCount(three) != 3) {
            throw new NoSuchElementException("two kinds are one");
        }
        if ((tree.allKinds() & three) != three) {
            throw new NoSuchElementException("the tree has not all three");
        }
        return tree.whoIsNearer(1 << a, 1 << b, 1 << c);
    }

    public int unlike(int shelf, int other) throws IndexOutOfBoundsException, IllegalStateException {
        needShelf(shelf);
        needShelf(other);
        Tree one = plainTreeOn(shelf);
        Tree two = plainTreeOn(other);
        return clustersOfFirstAlone(one, two) + clustersOfFirstAlone(two, one);
    }

    public int alike(int shelf, int other) throws IndexOutOfBoundsException, IllegalStateException {
        needShelf(shelf);
        needShelf(other);
        Tree one = plainTreeOn(shelf);
        Tree two = plainTreeOn(other);
        int both = one.allKinds() & two.allKinds();
        int same = 0;
        for (int a = 0; a < KIND_COUNT; a++) {
            for (int b = a + 1; b < KIND_COUNT; b++) {
                for (int c = b + 1; c < KIND_COUNT; c++) {
                    int three = 1 << a | 1 << b | 1 << c;
                    if ((both & three) == three && one.whoIsNearer(1 << a, 1 << b, 1 << c)
                            == two.whoIsNearer(1 << a, 1 << b, 1 << c)) {
                        same++;
                    }
                }
            }
        }
        return same;
    }

    // ---- TREES made of TREES

    public int cut(int shelf, int set, int to)
            throws IndexOutOfBoundsException, IllegalStateException, IllegalArgumentException {
        needShelf(shelf);
        needShelf(to);
        Tree tree = plainTreeOn(shelf);
        if ((tree.allKinds() & set) == 0) {
            throw new IllegalArgumentException("the tree has none of these kinds");
        }
        family.makeEmpty();
        for (int v = 0; v < tree.nodes; v++) {
            family.addCluster(tree.cluster[v] & set);
        }
        settleFamily(to);
        return trees[to].leaves;
    }

    public int strict(int shelves, int to)
            throws IndexOutOfBoundsException, IllegalArgumentException, IllegalStateException {
        needShelf(to);
        needShelfSet(shelves);
        needSameKinds(shelves);
        gatherShared(shelves, Integer.bitCount(shelves));
        settleFamily(to);
        return trees[to].nodes;
    }

    public int most(int shelves, int to)
            throws IndexOutOfBoundsException, IllegalArgumentException, IllegalStateException {
        needShelf(to);
        needShelfSet(shelves);
        needSameKinds(shelves);
        gatherShared(shelves, Integer.bitCount(shelves) / 2 + 1);
        settleFamily(to);
        return trees[to].nodes;
    }

    // ---- TRIPLES

    public int triple(int a, int b, int c)
            throws IndexOutOfBoundsException, IllegalArgumentException, UnsupportedOperationException {
        needKind(a);
        needKind(b);
        needKind(c);
        if (a == b || a == c || b == c) {
            throw new IllegalArgumentException("two kinds are one");
        }
        if (triples.size >= MOST_TRIPLES) {
            throw new UnsupportedOperationException("no more triples");
        }
        triples.addTriple(1 << a | 1 << b, 1 << c);
        return triples.size;
    }

    public int untriple() {
        int were = triples.size;
        triples.size = 0;
        return were;
    }

    public int build(int set, int to) throws IndexOutOfBoundsException, IllegalArgumentException {
        needShelf(to);
        needKindSet(set);
        family.makeEmpty();
        int clash = triples.joinAll(set, family);
        if (clash == 0) {
            settleFamily(to);
        }
        return clash;
    }

    public int shown(int shelf) throws IndexOutOfBoundsException, IllegalStateException {
        needShelf(shelf);
        return triples.shownBy(plainTreeOn(shelf));
    }

    // ---- SIGNS and STATES

    public int sign(int set) throws IllegalArgumentException, UnsupportedOperationException {
        if (set < 0 || set > ALL_KINDS) {
            throw new IllegalArgumentException("no set of kinds");
        }
        if (signs.size >= MOST_SIGNS) {
            throw new UnsupportedOperationException("no more signs");
        }
        signs.addSign(set);
        return signs.size;
    }

    public int unsign() {
        int were = signs.size;
        signs.size = 0;
        return were;
    }

    public int perfect(int set, int to) throws IndexOutOfBoundsException, IllegalArgumentException {
        needShelf(to);
        needKindSet(set);
        int quarrel = signs.firstQuarrel(set);
        if (quarrel != 0) {
            return quarrel;
        }
        family.makeEmpty();
        family.addEachKind(set);
        family.addCluster(set);
        signs.addClusters(set, family);
        settleFamily(to);
        return 0;
    }

    public void state(int row, int kind, int state) throws IndexOutOfBoundsException, IllegalArgumentException {
        needKind(kind);
        needRow(row);
        if (state < 0 || state >= STATE_COUNT) {
            throw new IllegalArgumentException("no such state");
        }
        states[row * KIND_COUNT + kind] = state;
    }

    public int changes(int shelf, int row)
            throws IndexOutOfBoundsException, IllegalStateException, IllegalArgumentException {
        needShelf(shelf);
        Tree tree = treeOn(shelf);
        needRow(row);
        return tallies.fewestChanges(tree, states, row * KIND_COUNT);
    }

    // ---- DISTANCES

    public void kinds(int n) throws IllegalArgumentException {
        if (n < FEWEST_COUNTING || n > KIND_COUNT) {
            throw new IllegalArgumentException("not so many kinds can count");
        }
        distances.counting = n;
    }

    public void distance(int a, int b, int d) throws IndexOutOfBoundsException, IllegalArgumentException {
        needKind(a);
        needKind(b);
        if (a == b) {
            throw new IllegalArgumentException("the kinds are one");
        }
        if (d < 0 || d > FARTHEST) {
            throw new IllegalArgumentException("no such distance");
        }
        distances.setBetween(a, b, d);
    }

    public boolean fourPoints() {
        return distances.fourPointsHold();
    }

    public boolean clock(int to) throws IndexOutOfBoundsException {
        needShelf(to);
        if (!distances.clockHolds()) {
            return false;
        }
        family.makeEmpty();
        distances.addClockClusters(family);
        settleFamily(to);
        return true;
    }

    public void nearest(int to) throws IndexOutOfBoundsException {
        needShelf(to);
        family.makeEmpty();
        distances.joinNearest(family);
        settleFamily(to);
    }

    // ---- LAYING and ORDERS

    public int doublings(int genes, int shelf) throws IndexOutOfBoundsException, IllegalStateException {
        return layingCost(genes, shelf) / Laying.DOUBLING;
    }

    public int losses(int genes, int shelf) throws IndexOutOfBoundsException, IllegalStateException {
        return layingCost(genes, shelf) % Laying.DOUBLING;
    }

    public long orders(int shelf) throws IndexOutOfBoundsException, IllegalStateException {
        needShelf(shelf);
        return tallies.ordersOf(treeOn(shelf));
    }

    public int count(int what) {
        switch (what) {
            case 0:
                return fullShelves();
            case 1:
                return triples.size;
            case 2:
                return signs.size;
            case 3:
                return distances.counting;
            case 4:
                return tape.length;
            case 5:
                return writer.length;
            default:
                return NONE;
        }
    }

    // ---- what several calls need

    private static void needShelf(int shelf) {
        if (shelf < 0 || shelf >= SHELF_COUNT) {
            throw new IndexOutOfBoundsException("no such shelf");
        }
    }

    private static void needKind(int kind) {
        if (kind < 0 || kind >= KIND_COUNT) {
            throw new IndexOutOfBoundsException("no such kind");
        }
    }

    private static void needRow(int row) {
        if (row < 0 || row >= ROW_COUNT) {
            throw new IllegalArgumentException("no such row");
        }
    }

    private static void needKindSet(int set) {
        if (set < 1 || set > ALL_KINDS) {
            throw new IllegalArgumentException("no set of kinds, or an empty one");
        }
    }

    private static void needShelfSet(int set) {
        if (set < 1 || set > ALL_SHELVES) {
            throw new IllegalArgumentException("no shelf, or one that there is not");
        }
    }

    private void needSameKinds(int set) {
        int common = 0;
        for (int s = 0; s < SHELF_COUNT; s++) {
            if ((set >> s & 1) != 0) {
                int own = plainTreeOn(s).allKinds();
                if (common != 0 && common != own) {
                    throw new IllegalStateException("the kinds are not the same");
                }
                common = own;
            }
        }
    }

    private Tree treeOn(int shelf) {
        Tree tree = trees[shelf];
        if (tree.isNone()) {
            throw new IllegalStateException("the shelf has no tree");
        }
        return tree;
    }

    private Tree plainTreeOn(int shelf) {
        Tree tree = treeOn(shelf);
        if (!tree.isPlain()) {
            throw new IllegalStateException("the tree is not plain");
        }
        return tree;
    }

    private void settle(int to) {
        Tree old = trees[to];
        trees[to] = spare;
        spare = old;
    }

    private void settleFamily(int to) {
        family.growTree(spare);
        settle(to);
    }

    private int fullShelves() {
        int full = 0;
        for (int s = 0; s < SHELF_COUNT; s++) {
            if (!trees[s].isNone()) {
                full |= 1 << s;
            }
        }
        return full;
    }

    private static int clustersOfFirstAlone(Tree first, Tree second) {
        int alone = 0;
        for (int v = 0; v < first.nodes; v++) {
            if (!second.hasCluster(first.cluster[v])) {
                alone++;
            }
        }
        return alone;
    }

    private void gatherShared(int set, int holdersNeeded) {
        family.makeEmpty();
        for (int s = 0; s < SHELF_COUNT; s++) {
            if ((set >> s & 1) != 0) {
                Tree tree = trees[s];
                for (int v = 0; v < tree.nodes; v++) {
                    if (holders(set, tree.cluster[v]) >= holdersNeeded) {
                        family.addCluster(tree.cluster[v]);
                    }
                }
            }
        }
    }

    private int holders(int set, int cluster) {
        int holding = 0;
        for (int s = 0; s < SHELF_COUNT; s++) {
            if ((set >> s & 1) != 0 && trees[s].hasCluster(cluster)) {
                holding++;
            }
        }
        return holding;
    }

    private int layingCost(int genes, int shelf) {
        needShelf(genes);
        needShelf(shelf);
        Tree geneTree = treeOn(genes);
        Tree kindTree = plainTreeOn(shelf);
        if (!geneTree.isBinary() || !kindTree.isBinary()) {
            throw new IllegalStateException("a tree is not binary");
        }
        if ((geneTree.allKinds() & ~kindTree.allKinds()) != 0) {
            throw new IllegalStateException("a kind of the genes is missing");
        }
        return laying.leastCost(geneTree, kindTree);
    }

    /**
     * A TREE, or none if it has no NODES. The ROOT is 0 and each other NODE stands behind its parent,
     * so that a loop from the last one down meets all CHILDREN ahead of their parent.
     */
    private static final class Tree {
        final int[] parent = new int[MOST_NODES];
        /** NONE of a NODE with CHILDREN. */
        final int[] kind = new int[MOST_NODES];
        final int[] cluster = new int[MOST_NODES];
        final int[] children = new int[MOST_NODES];
        int nodes;
        int leaves;

        boolean isNone() {
            return nodes == 0;
        }

        void makeNone() {
            nodes = 0;
            leaves = 0;
        }

        /** The first one is the ROOT; another one without a parent that stands ahead of it is refused. */
        int addNode(int above, int kindOrNone) {
            int v = nodes;
            if (v >= MOST_NODES || v > 0 && (above < 0 || above >= v)) {
                return NONE;
            }
            parent[v] = v == 0 ? NONE : above;
            kind[v] = kindOrNone;
            children[v] = 0;
            cluster[v] = kindOrNone == NONE ? 0 : 1 << kindOrNone;
            leaves += kindOrNone == NONE ? 0 : 1;
            if (v > 0) {
                children[above]++;
            }
            nodes++;
            return v;
        }

        int parentOf(int v) {
            return v >= 0 && v < nodes ? parent[v] : NONE;
        }

        void gatherClusters() {
            for (int v = nodes - 1; v > 0; v--) {
                cluster[parent[v]] |= cluster[v];
            }
        }

        int allKinds() {
            return nodes == 0 ? 0 : cluster[0];
        }

        boolean isPlain() {
            return leaves == Integer.bitCount(allKinds());
        }

        boolean isBinary() {
            for (int v = 0; v < nodes; v++) {
                if (children[v] > 2) {
                    return false;
                }
            }
            return true;
        }

        int height() {
            int farthest = 0;
            for (int v = 0; v < nodes; v++) {
                farthest = Math.max(farthest, nodesUpFrom(v));
            }
            return farthest;
        }

        private int nodesUpFrom(int v) {
            int met = 0;
            for (int at = v; at != NONE && met < nodes; at = parent[at]) {
                met++;
            }
            return met;
        }

        boolean hasCluster(int set) {
            for (int v = 0; v < nodes; v++) {
                if (cluster[v] == set) {
                    return true;
                }
            }
            return false;
        }

        int leastClusterAround(int set) {
            int found = NONE;
            for (int v = 0; v < nodes && set != 0; v++) {
                boolean around = (cluster[v] & set) == set;
                // those around one set lie below one another, and a lower one has a smaller CLUSTER
                if (around && (found == NONE || Integer.bitCount(cluster[v]) < Integer.bitCount(found))) {
                    found = cluster[v];
                }
            }
            return found;
        }

        /** Of a TRIPLE told as bits; a TREE that has not all three KINDS shows nothing of them. */
        boolean shows(int pair, int third) {
            int three = pair | third;
            if ((allKinds() & three) != three) {
                return false;
            }
            for (int v = 0; v < nodes; v++) {
                if ((cluster[v] & three) == pair) {
                    return true;
                }
            }
            return false;
        }

        /** Of three KINDS told as bits, all of which the TREE has. */
        int whoIsNearer(int a, int b, int c) {
            for (int v = 0; v < nodes; v++) {
                int met = cluster[v] & (a | b | c);
                if (met == (a | b)) {
                    return 0;
                }
                if (met == (a | c)) {
                    return 1;
                }
                if (met == (b | c)) {
                    return 2;
                }
            }
            return 3;
        }

        /** Of a BINARY TREE the two CHILDREN of each NODE; both are NONE of a LEAF, neither is of another one. */
        void findTwoChildren(int[] one, int[] two) {
            for (int v = 0; v < nodes; v++) {
                one[v] = NONE;
                two[v] = NONE;
            }
            for (int v = nodes - 1; v > 0; v--) {
                two[parent[v]] = one[parent[v]];
                one[parent[v]] = v;
            }
        }
    }

    /** The bytes that read() takes. */
    private static final class Tape {
        final int[] bytes = new int[TAPE_ROOM];
        int length;

        boolean hasRoomFor(int more) {
            return length + more <= TAPE_ROOM;
        }

        void addNumber(int number) {
            addByte(number >>> 24);
            addByte(number >>> 16);
            addByte(number >>> 8);
            addByte(number);
        }

        void addByte(int value) {
            if (length < TAPE_ROOM) {
                bytes[length] = value & 255;
                length++;
            }
        }
    }

    /** Finds the FAULT of a TAPE, or makes a TREE of one that has none. */
    private static final class Reader {
        private static final int NODE_DUE = 0;
        private static final int BEHIND_NODE = 1;
        private static final int BEHIND_TEXT = 2;
        private static final int NO_TEXT = 1;
        private static final int TOO_MUCH = 2;

        /** Of each open bracket; one that has none must not close yet. */
        private final int[] commas = new int[MOST_OPEN];
        private int open;
        private int leaves;
        private int phase;
        int faultFound;
        int faultPlace = NONE;

        /** This goes ahead of growTree(), as a TAPE with a FAULT may have more NODES than a TREE has room for. */
        void examine(Tape tape, int length) {
            open = 0;
            leaves = 0;
            phase = NODE_DUE;
            faultFound = 0;
            faultPlace = NONE;
            for (int i = 0; i < length && faultFound == 0; i++) {
                faultFound = faultAt(tape.bytes[i]);
                faultPlace = faultFound == 0 ? NONE : i;
            }
            if (faultFound == 0 && phase != BEHIND_TEXT) {
                faultFound = NO_TEXT;
                faultPlace = length;
            }
        }

        private int faultAt(int next) {
            if (next == BLANK) {
                return 0;
            }
            if (phase == NODE_DUE) {
                return faultOfNode(next);
            }
            if (phase == BEHIND_NODE) {
                return open == 0 ? faultOfEnding(next) : faultInBrackets(next);
            }
            return NO_TEXT;
        }

        private int faultOfNode(int next) {
            if (next == OPENING) {
                if (open >= MOST_OPEN) {
                    return TOO_MUCH;
                }
                commas[open] = 0;
                open++;
                return 0;
            }
            if (!isKindLetter(next)) {
                return NO_TEXT;
            }
            if (leaves >= MOST_LEAVES) {
                return TOO_MUCH;
            }
            leaves++;
            phase = BEHIND_NODE;
            return 0;
        }

        private int faultOfEnding(int next) {
            if (next != ENDING) {
                return NO_TEXT;
            }
            phase = BEHIND_TEXT;
            return 0;
        }

        private int faultInBrackets(int next) {
            if (next == COMMA) {
                commas[open - 1]++;
                phase = NODE_DUE;
                return 0;
            }
            if (next == CLOSING && commas[open - 1] > 0) {
                open--;
                return 0;
            }
            return NO_TEXT;
        }

        private static boolean isKindLetter(int value) {
            return value >= LETTER_A && value < LETTER_A + KIND_COUNT;
        }

        void growTree(Tape tape, int length, Tree tree) {
            tree.makeNone();
            int above = NONE;
            for (int i = 0; i < length; i++) {
                int next = tape.bytes[i];
                if (next == OPENING) {
                    above = tree.addNode(above, NONE);
                } else if (next == CLOSING) {
                    above = tree.parentOf(above);
                } else if (isKindLetter(next)) {
                    tree.addNode(above, next - LETTER_A);
                }
            }
            tree.gatherClusters();
        }
    }

    /** Writes a TREE, and keeps what was WRITTEN last. */
    private static final class Writer {
        final int[] bytes = new int[WRITTEN_ROOM];
        int length;
        private final int[] firstChild = new int[MOST_NODES];
        private final int[] nextChild = new int[MOST_NODES];

        void compose(Tree tree) {
            sortChildren(tree);
            length = 0;
            putNode(tree, 0, 0);
            putByte(ENDING);
        }

        private void sortChildren(Tree tree) {
            for (int v = 0; v < tree.nodes; v++) {
                firstChild[v] = NONE;
                nextChild[v] = NONE;
            }
            // from the last one down: the CHILDREN of v are sorted before v itself is compared
            for (int v = tree.nodes - 1; v > 0; v--) {
                insertChild(tree, tree.parent[v], v);
            }
        }

        private void insertChild(Tree tree, int above, int v) {
            int ahead = NONE;
            int behind = firstChild[above];
            for (int met = 0; met < MOST_NODES && behind != NONE; met++) {
                if (compareTexts(tree, behind, v, 0) >= 0) {
                    break;
                }
                ahead = behind;
                behind = nextChild[behind];
            }
            nextChild[v] = behind;
            if (ahead == NONE) {
                firstChild[above] = v;
            } else {
                nextChild[ahead] = v;
            }
        }

        private int compareTexts(Tree tree, int v, int w, int depth) {
            int kindV = tree.kind[v];
            int kindW = tree.kind[w];
            if (kindV != NONE || kindW != NONE) {
                // as an opening bracket is below all letters, so NONE is below all KINDS
                return kindV - kindW;
            }
            if (depth > MOST_OPEN) {
                return 0;
            }
            int a = firstChild[v];
            int b = firstChild[w];
            for (int met = 0; met < MOST_NODES && a != NONE && b != NONE; met++) {
                int order = compareTexts(tree, a, b, depth + 1);
                if (order != 0) {
                    return order;
                }
                a = nextChild[a];
                b = nextChild[b];
            }
            // a closing bracket is a lesser byte than a comma, so the one with fewer CHILDREN is lesser
            return (a != NONE ? 1 : 0) - (b != NONE ? 1 : 0);
        }

        private void putNode(Tree tree, int v, int depth) {
            if (tree.kind[v] != NONE) {
                putByte(LETTER_A + tree.kind[v]);
                return;
            }
            if (depth > MOST_OPEN) {
                return;
            }
            int child = firstChild[v];
            for (int met = 0; met < MOST_NODES && child != NONE; met++) {
                putByte(met == 0 ? OPENING : COMMA);
                putNode(tree, child, depth + 1);
                child = nextChild[child];
            }
            putByte(CLOSING);
        }

        private void putByte(int value) {
            if (length < WRITTEN_ROOM) {
                bytes[length] = value;
                length++;
            }
        }
    }

    /** CLUSTERS of a PLAIN TREE that is to grow, the larger ones ahead: any two share all KINDS of one, or none. */
    private static final class Family {
        private final int[] sets = new int[MOST_NODES];
        private int size;

        void makeEmpty() {
            size = 0;
        }

        void addEachKind(int set) {
            for (int k = 0; k < KIND_COUNT; k++) {
                addCluster(set & 1 << k);
            }
        }

        void addCluster(int set) {
            if (set == 0 || size >= MOST_NODES || isMember(set)) {
                return;
            }
            int at = size;
            for (int i = size; i > 0 && Integer.bitCount(sets[i - 1]) < Integer.bitCount(set); i--) {
                sets[i] = sets[i - 1];
                at = i - 1;
            }
            sets[at] = set;
            size++;
        }

        private boolean isMember(int set) {
            for (int i = 0; i < size; i++) {
                if (sets[i] == set) {
                    return true;
                }
            }
            return false;
        }

        void growTree(Tree tree) {
            tree.makeNone();
            for (int i = 0; i < size; i++) {
                tree.addNode(smallestAround(i), kindIfAlone(sets[i]));
            }
            tree.gatherClusters();
        }

        private int smallestAround(int i) {
            for (int j = i - 1; j >= 0; j--) {
                if ((sets[j] & sets[i]) == sets[i]) {
                    return j;
                }
            }
            return NONE;
        }

        private static int kindIfAlone(int set) {
            for (int k = 0; k < KIND_COUNT; k++) {
                if (set == 1 << k) {
                    return k;
                }
            }
            return NONE;
        }
    }

    /** TRIPLES, each as the bits of a and b and the bit of c. */
    private static final class Triples {
        private final int[] pairs = new int[MOST_TRIPLES];
        private final int[] thirds = new int[MOST_TRIPLES];
        int size;

        void addTriple(int pair, int third) {
            if (size < MOST_TRIPLES) {
                pairs[size] = pair;
                thirds[size] = third;
                size++;
            }
        }

        int shownBy(Tree tree) {
            int shown = 0;
            for (int t = 0; t < size; t++) {
                if (tree.shows(pairs[t], thirds[t])) {
                    shown++;
                }
            }
            return shown;
        }

        /** Adds the CLUSTERS of JOINING a set: the CLASH, or 0. */
        int joinAll(int set, Family family) {
            return joinSet(set, family, 0);
        }

        /** Each level has fewer KINDS than the one above, so the depth stays below their number. */
        private int joinSet(int set, Family family, int depth) {
            family.addCluster(set);
            if (Integer.bitCount(set) < 2 || depth > KIND_COUNT) {
                return 0;
            }
            int left = set;
            for (int parts = 0; parts < KIND_COUNT && left != 0; parts++) {
                int part = partWithLeastKind(left, set);
                if (part == set) {
                    return set;
                }
                int clash = joinSet(part, family, depth + 1);
                if (clash != 0) {
                    return clash;
                }
                left &= ~part;
            }
            return 0;
        }

        private int partWithLeastKind(int left, int set) {
            int part = Integer.lowestOneBit(left);
            // each round but the last one takes in a KIND more
            for (int round = 0; round < KIND_COUNT; round++) {
                int wider = withLinked(part, set);
                if (wider == part) {
                    break;
                }
                part = wider;
            }
            return part;
        }

        private int withLinked(int part, int set) {
            int wider = part;
            for (int t = 0; t < size; t++) {
                int three = pairs[t] | thirds[t];
                if ((three & set) == three && (pairs[t] & wider) != 0) {
                    wider |= pairs[t];
                }
            }
            return wider;
        }
    }

    /** SIGNS, each as the set of KINDS that have it. */
    private static final class Signs {
        private static final int QUARREL = 1000;

        private final int[] sets = new int[MOST_SIGNS];
        int size;

        void addSign(int set) {
            if (size < MOST_SIGNS) {
                sets[size] = set;
                size++;
            }
        }

        void addClusters(int set, Family family) {
            for (int i = 0; i < size; i++) {
                family.addCluster(sets[i] & set);
            }
        }

        int firstQuarrel(int set) {
            for (int i = 0; i < size; i++) {
                for (int j = i + 1; j < size; j++) {
                    if (areAgainst(sets[i] & set, sets[j] & set)) {
                        return QUARREL + MOST_SIGNS * i + j;
                    }
                }
            }
            return 0;
        }

        private static boolean areAgainst(int one, int two) {
            return (one & ~two) != 0 && (two & ~one) != 0 && (one & two) != 0;
        }
    }

    /** What is summed up over a TREE from its LEAVES to its ROOT. */
    private static final class Tallies {
        /** Above any number of changes, for a LEAF that would not have its KIND's STATE. */
        private static final int NEVER = 1000;

        private final int[] cost = new int[MOST_NODES * STATE_COUNT];
        private final long[] ways = new long[MOST_NODES];
        private final int[] branchings = new int[MOST_NODES];

        /** The row of STATES starts at the place told. */
        int fewestChanges(Tree tree, int[] states, int start) {
            for (int v = 0; v < tree.nodes; v++) {
                boolean isLeaf = tree.kind[v] != NONE;
                for (int s = 0; s < STATE_COUNT; s++) {
                    cost[v * STATE_COUNT + s] = isLeaf && states[start + tree.kind[v]] != s ? NEVER : 0;
                }
            }
            for (int v = tree.nodes - 1; v > 0; v--) {
                int above = tree.parent[v];
                int withChange = leastCost(v) + 1;
                for (int s = 0; s < STATE_COUNT; s++) {
                    cost[above * STATE_COUNT + s] += Math.min(cost[v * STATE_COUNT + s], withChange);
                }
            }
            return leastCost(0);
        }

        private int leastCost(int v) {
            int found = cost[v * STATE_COUNT];
            for (int s = 1; s < STATE_COUNT; s++) {
                found = Math.min(found, cost[v * STATE_COUNT + s]);
            }
            return found;
        }

        long ordersOf(Tree tree) {
            for (int v = 0; v < tree.nodes; v++) {
                ways[v] = 1;
                branchings[v] = 0;
            }
            for (int v = tree.nodes - 1; v > 0; v--) {
                int above = tree.parent[v];
                // v itself comes ahead of all below it: one branching more, and no way more
                int own = branchings[v] + (tree.kind[v] == NONE ? 1 : 0);
                int together = branchings[above] + own;
                ways[above] *= ways[v] * choices(together, own);
                branchings[above] = together;
            }
            return ways[0];
        }

        /** In how many ways some places of all can be chosen; at most 22 of them, so it stays small. */
        private static long choices(int all, int some) {
            long found = 1;
            for (int i = 1; i <= some; i++) {
                found = found * (all - some + i) / i;
            }
            return found;
        }
    }

    /** DISTANCES, and what comes of them. */
    private static final class Distances {
        /** Ten joinings halve ten times; so many bits behind the point keep each half exact. */
        private static final int BITS_BEHIND = 12;

        int counting = KIND_COUNT;
        private final int[] between = new int[KIND_COUNT * KIND_COUNT];
        /** For NEAREST JOINING: a NODE lives at the place of its least KIND, so ties fall to the first pair met. */
        private final int[] clusterAt = new int[KIND_COUNT];
        private final long[] gap = new long[KIND_COUNT * KIND_COUNT];
        private final long[] gapSum = new long[KIND_COUNT];
        private int nearOne;
        private int nearTwo;

        void setBetween(int a, int b, int d) {
            between[a * KIND_COUNT + b] = d;
            between[b * KIND_COUNT + a] = d;
        }

        private int d(int a, int b) {
            return between[a * KIND_COUNT + b];
        }

        private static boolean twoGreatestAreEqual(int x, int y, int z) {
            int greatest = Math.max(x, Math.max(y, z));
            return x == y ? x == greatest : z == greatest && (x == greatest || y == greatest);
        }

        /** The sums of i, j, k, l in another order are the same three, so rising orders are all. */
        boolean fourPointsHold() {
            for (int i = 0; i < counting; i++) {
                for (int j = i; j < counting; j++) {
                    for (int k = j; k < counting; k++) {
                        if (!fourPointsHoldFrom(i, j, k)) {
                            return false;
                        }
                    }
                }
            }
            return true;
        }

        private boolean fourPointsHoldFrom(int i, int j, int k) {
            for (int l = k; l < counting; l++) {
                if (!twoGreatestAreEqual(d(i, j) + d(k, l), d(i, k) + d(j, l), d(i, l) + d(j, k))) {
                    return false;
                }
            }
            return true;
        }

        boolean clockHolds() {
            for (int i = 0; i < counting; i++) {
                for (int j = i + 1; j < counting; j++) {
                    for (int k = j + 1; k < counting; k++) {
                        if (!twoGreatestAreEqual(d(i, j), d(i, k), d(j, k))) {
                            return false;
                        }
                    }
                }
            }
            return true;
        }

        void addClockClusters(Family family) {
            family.addEachKind((1 << counting) - 1);
            for (int i = 0; i < counting; i++) {
                for (int k = 0; k < counting; k++) {
                    // d(i,i) is 0, so these heights are all at which a CLUSTER of i grows, and 0
                    family.addCluster(kindsWithin(i, d(i, k)));
                }
            }
        }

        private int kindsWithin(int i, int height) {
            int set = 1 << i;
            for (int j = 0; j < counting; j++) {
                if (d(i, j) <= height) {
                    set |= 1 << j;
                }
            }
            return set;
        }

        void joinNearest(Family family) {
            family.addEachKind((1 << counting) - 1);
            startJoining();
            for (int left = counting; left > 2; left--) {
                sumGaps();
                chooseNearest(left);
                mergeNearest();
                family.addCluster(clusterAt[nearOne]);
            }
            family.addCluster((1 << counting) - 1);
        }

        private void startJoining() {
            for (int i = 0; i < counting; i++) {
                clusterAt[i] = 1 << i;
                for (int j = 0; j < counting; j++) {
                    gap[i * KIND_COUNT + j] = (long) d(i, j) << BITS_BEHIND;
                }
            }
        }

        private void sumGaps() {
            for (int i = 0; i < counting; i++) {
                gapSum[i] = 0;
                for (int j = 0; j < counting; j++) {
                    if (j != i && clusterAt[j] != 0) {
                        gapSum[i] += gap[i * KIND_COUNT + j];
                    }
                }
            }
        }

        private void chooseNearest(int left) {
            boolean found = false;
            long least = 0;
            for (int i = 0; i < counting; i++) {
                for (int j = i + 1; j < counting; j++) {
                    if (clusterAt[i] != 0 && clusterAt[j] != 0) {
                        long score = (left - 2) * gap[i * KIND_COUNT + j] - gapSum[i] - gapSum[j];
                        if (!found || score < least) {
                            found = true;
                            least = score;
                            nearOne = i;
                            nearTwo = j;
                        }
                    }
                }
            }
        }

        private void mergeNearest() {
            long inner = gap[nearOne * KIND_COUNT + nearTwo];
            for (int k = 0; k < counting; k++) {
                if (k != nearOne && k != nearTwo && clusterAt[k] != 0) {
                    long both = gap[nearOne * KIND_COUNT + k] + gap[nearTwo * KIND_COUNT + k];
                    long half = both - inner >> 1;
                    gap[nearOne * KIND_COUNT + k] = half;
                    gap[k * KIND_COUNT + nearOne] = half;
                }
            }
            clusterAt[nearOne] |= clusterAt[nearTwo];
            clusterAt[nearTwo] = 0;
        }
    }

    /**
     * LAYING a TREE of genes into one of KINDS, over all ways at once. One number tells both costs,
     * so that fewer DOUBLINGS always weigh more than all LOSSES.
     */
    private static final class Laying {
        static final int DOUBLING = 10000;
        /** No way; two of these and a DOUBLING still fit an int. */
        private static final int NEVER = 1 << 28;
        private static final int MOST_KIND_NODES = 2 * KIND_COUNT - 1;

        /**
         * Of a gene NODE and a NODE n of KINDS: the least cost of the gene NODE told to n or below it,
         * and one for each step from there up to n.
         */
        private final int[] liftedCost = new int[MOST_NODES * MOST_KIND_NODES];
        private final int[] geneOne = new int[MOST_NODES];
        private final int[] geneTwo = new int[MOST_NODES];
        private final int[] kindOne = new int[MOST_NODES];
        private final int[] kindTwo = new int[MOST_NODES];

        int leastCost(Tree genes, Tree kinds) {
            if (kinds.nodes > MOST_KIND_NODES) {
                return NEVER;
            }
            genes.findTwoChildren(geneOne, geneTwo);
            kinds.findTwoChildren(kindOne, kindTwo);
            int rootCost = NEVER;
            for (int g = genes.nodes - 1; g >= 0; g--) {
                rootCost = fillCosts(genes.kind[g], g, kinds);
            }
            return rootCost;
        }

        /** Answers the least cost of the gene NODE told to any NODE. */
        private int fillCosts(int geneKind, int g, Tree kinds) {
            int best = NEVER;
            for (int m = kinds.nodes - 1; m >= 0; m--) {
                int here = NEVER;
                if (geneTwo[g] != NONE) {
                    here = branchingCost(geneOne[g], geneTwo[g], m);
                } else if (geneKind == kinds.kind[m]) {
                    here = 0;
                }
                best = Math.min(best, here);
                if (kindTwo[m] != NONE) {
                    here = Math.min(here, 1 + Math.min(lifted(g, kindOne[m]), lifted(g, kindTwo[m])));
                }
                liftedCost[g * MOST_KIND_NODES + m] = Math.min(here, NEVER);
            }
            return best;
        }

        private int lifted(int g, int m) {
            return liftedCost[g * MOST_KIND_NODES + m];
        }

        private int branchingCost(int x, int y, int m) {
            // CHILDREN told to both sides of m are counted here too, but as a SPLIT they always cost less
            int cost = DOUBLING + lifted(x, m) + lifted(y, m);
            if (kindTwo[m] != NONE) {
                cost = Math.min(cost, lifted(x, kindOne[m]) + lifted(y, kindTwo[m]));
                cost = Math.min(cost, lifted(x, kindTwo[m]) + lifted(y, kindOne[m]));
            }
            return Math.min(cost, NEVER);
        }
    }
}
