import java.util.ArrayList;
import java.util.List;

/** Promises 33 (doublings), 34 (losses) and 35 (orders). */
public final class LayingTest {
    public static void main(String[] args) {
        knownLayings();
        allWaysOfSmallTrees();
        wrongCalls();
        knownOrders();
        allRowsOfSmallTrees();
        Check.close();
    }

    private static void lays(String genes, String kinds, int doublings, int losses) {
        LineageBench x = new LineageBench();
        Texts.read(x, 0, genes);
        Texts.read(x, 1, kinds);
        Check.due("doublings of " + genes + " in " + kinds, x.doublings(0, 1), doublings);
        Check.due("losses of " + genes + " in " + kinds, x.losses(0, 1), losses);
    }

    private static void knownLayings() {
        lays("a;", "a;", 0, 0);
        lays("a;", "((a,b),c);", 0, 0);
        lays("(a,b);", "(a,b);", 0, 0);
        lays("(a,a);", "a;", 1, 0);
        lays("(a,a);", "((a,b),c);", 1, 0);
        lays("((a,b),c);", "((a,b),c);", 0, 0);
        lays("(a,c);", "((a,b),c);", 0, 1);
        lays("((a,c),b);", "((a,b),c);", 1, 3);
        lays("((a,b),(a,b));", "(a,b);", 1, 0);
        lays("((a,b),a);", "(a,b);", 1, 1);
        lays("((a,a),(a,a));", "a;", 3, 0);
        lays("((a,b),(c,d));", "(((a,b),c),d);", 1, 3);
        lays("(((a,d),b),c);", "(((a,b),c),d);", 2, 7);
        lays("(a,".repeat(23) + "a" + ")".repeat(23) + ";", "(a,b);", 23, 0);
        String chain = "(".repeat(11) + "a,b),c),d),e),f),g),h),i),j),k),l);";
        lays(chain, chain, 0, 0);
        lays("(a,l);", chain, 0, 10);
        lays("((a,l),(a,l));", chain, 1, 20);
        lays("((((((((((((a,b),c),d),e),f),g),h),i),j),k),l),(a,b));", chain, 1, 10);
        LineageBench x = new LineageBench();
        Texts.read(x, 4, "((a,b),(c,d));");
        Check.due("doublings in itself", x.doublings(4, 4), 0);
        Check.due("losses in itself", x.losses(4, 4), 0);
    }

    private static void wrongCalls() {
        LineageBench x = new LineageBench();
        Texts.read(x, 0, "((a,b),(a,c));");
        Texts.read(x, 1, "((a,b),c);");
        Texts.read(x, 2, "(a,b,c);");
        Texts.read(x, 3, "((a,b),d);");
        Texts.read(x, 4, "((a,b),c,d);");
        check(x, 0, 1, null);
        check(x, 1, 0, IllegalStateException.class);
        check(x, 2, 1, IllegalStateException.class);
        check(x, 1, 2, IllegalStateException.class);
        check(x, 0, 3, IllegalStateException.class);
        check(x, 0, 4, IllegalStateException.class);
        check(x, 5, 1, IllegalStateException.class);
        check(x, 0, 5, IllegalStateException.class);
        check(x, 5, 8, IndexOutOfBoundsException.class);
        check(x, -1, 5, IndexOutOfBoundsException.class);
    }

    private static void check(LineageBench x, int genes, int shelf, Class<?> want) {
        Check.thrown("doublings(" + genes + ", " + shelf + ")", want, () -> x.doublings(genes, shelf));
        Check.thrown("losses(" + genes + ", " + shelf + ")", want, () -> x.losses(genes, shelf));
    }

    private static void allWaysOfSmallTrees() {
        String[] kinds = {"((a,b),c);", "(((a,b),c),d);", "((a,b),(c,d));", "(((a,b),(c,d)),e);", "((((a,b),c),d),e);"};
        String[] genes = {"((a,c),(b,c));", "(((a,b),a),c);", "((a,b),(c,(a,b)));", "((c,b),(a,(c,c)));",
            "(((a,c),(b,c)),a);", "(((c,a),c),(b,b));", "(((a,b),c),((a,b),c));", "((c,(b,a)),(b,(a,c)));"};
        for (String k : kinds) {
            for (String g : genes) {
                for (char from = 'a'; from <= 'c'; from++) {
                    int last = Texts.set(k.replaceAll("[^a-l]", ""));
                    char to = (char) ('a' + Integer.bitCount(last) - 1);
                    String moved = g.replace(from, to);
                    int[] fewest = new AllWays(ReferenceBench.parse(moved), ReferenceBench.parse(k)).fewest();
                    lays(moved, k, fewest[0], fewest[1]);
                }
            }
        }
    }

    /** Walks over all ways to tell the nodes of the one tree nodes of the other one. */
    private static final class AllWays {
        private final List<ReferenceBench.Node> inner = new ArrayList<>();
        private final List<ReferenceBench.Node> targets = new ArrayList<>();
        private final java.util.Map<ReferenceBench.Node, ReferenceBench.Node> told = new java.util.IdentityHashMap<>();
        private final int[] fewest = {1000, 1000};

        AllWays(ReferenceBench.Node genes, ReferenceBench.Node kinds) {
            kinds.listTo(targets);
            List<ReferenceBench.Node> all = new ArrayList<>();
            genes.listTo(all);
            for (ReferenceBench.Node g : all) {
                if (g.isLeaf()) {
                    for (ReferenceBench.Node t : targets) {
                        if (t.isLeaf() && t.kind == g.kind) {
                            told.put(g, t);
                        }
                    }
                } else {
                    // children are told ahead of their parent
                    inner.add(0, g);
                }
            }
        }

        int[] fewest() {
            walk(0, 0, 0);
            return fewest;
        }

        private void walk(int i, int doublings, int losses) {
            if (i == inner.size()) {
                if (doublings < fewest[0] || doublings == fewest[0] && losses < fewest[1]) {
                    fewest[0] = doublings;
                    fewest[1] = losses;
                }
                return;
            }
            ReferenceBench.Node g = inner.get(i);
            ReferenceBench.Node x = told.get(g.children.get(0));
            ReferenceBench.Node y = told.get(g.children.get(1));
            for (ReferenceBench.Node m : targets) {
                if (m.isOrLiesAbove(x) && m.isOrLiesAbove(y)) {
                    boolean doubling = ReferenceBench.isDoubling(m, x, y);
                    told.put(g, m);
                    walk(i + 1, doublings + (doubling ? 1 : 0), losses + ReferenceBench.lossesOnWay(m, x, doubling)
                            + ReferenceBench.lossesOnWay(m, y, doubling));
                }
            }
        }
    }

    private static void ordersAre(String text, long want) {
        LineageBench x = new LineageBench();
        Texts.read(x, 6, text);
        Check.due("orders of " + text, x.orders(6), want);
    }

    private static void knownOrders() {
        ordersAre("l;", 1);
        ordersAre("(a,b);", 1);
        ordersAre("(a,b,c);", 1);
        ordersAre("((a,b),(c,d));", 2);
        ordersAre("((a,b),(a,b),(a,b));", 6);
        ordersAre("(((a,b),c),((d,e),f));", 6);
        ordersAre("(((a,b),(c,d)),((e,f),(g,h)));", 80);
        ordersAre("((a,b)" + ",(a,b)".repeat(11) + ");", 479001600L);
        ordersAre("(a,".repeat(23) + "b" + ")".repeat(23) + ";", 1);
        LineageBench x = new LineageBench();
        Check.badState("none", () -> x.orders(0));
        Check.noIndex("no shelf", () -> x.orders(8));
        Check.noIndex("no shelf", () -> x.orders(-1));
    }

    private static void allRowsOfSmallTrees() {
        String[] texts = {"((a,b),((c,d),(e,f)));", "(((a,b),(a,b),c),(d,e),f);",
            "((((a,b),c),d),((e,f),(g,h)),(a,b));", "(((a,b),((c,d),e)),(f,((g,h),(i,j))));",
            "((a,(b,(c,d))),(a,(b,(c,d))));"};
        for (String text : texts) {
            List<ReferenceBench.Node> open = new ArrayList<>();
            open.add(ReferenceBench.parse(text));
            ordersAre(text, rows(open));
        }
    }

    /** In how many ways a row goes on, if each of these may come next. */
    private static long rows(List<ReferenceBench.Node> open) {
        long found = 0;
        boolean none = true;
        for (int i = 0; i < open.size(); i++) {
            if (!open.get(i).isLeaf()) {
                none = false;
                List<ReferenceBench.Node> next = new ArrayList<>(open);
                next.addAll(next.remove(i).children);
                found += rows(next);
            }
        }
        return none ? 1 : found;
    }
}
