/** What the terms say of laying and orders, and promises 33 to 36, sentence by sentence. */
public final class LayingSentencesTest {
    private static final String COMB = "(".repeat(11) + "a,b),c),d),e),f),g),h),i),j),k),l);";
    private static final String DEEPEST = "(a,".repeat(23) + "b" + ")".repeat(23) + ";";

    public static void main(String[] args) {
        Sentence.open(args, "Terms 4", "Promise 33", "Promise 34", "Promise 35", "Promise 36");
        terms();
        layingPromises();
        countPromises();
        Sentence.close();
    }

    private static void terms() {
        String terms = "Terms 4";
        Sentence.test(terms, "LAYING a TREE of genes (BINARY; its LEAVES' KINDS may come twice) into one of KINDS",
                LayingSentencesTest::kindsMayComeTwice);
        Sentence.test(terms, "(PLAIN, BINARY, having all of these KINDS):", LayingSentencesTest::havingAll);
        Sentence.test(terms, "each NODE of the first one is told a NODE of the second one: a LEAF the LEAF of its KIND",
                LayingSentencesTest::leafOfItsKind);
        Sentence.test(terms, "another one some NODE which is, or lies above, those told to its CHILDREN.",
                LayingSentencesTest::isOrLiesAbove);
        Sentence.test(terms, "A NODE with CHILDREN, told to m, is a DOUBLING, if one of its CHILDREN is told to m too,",
                LayingSentencesTest::childToldToTheSame);
        Sentence.test(terms, "or both are told to NODES that one CHILD of m is or lies above",
                LayingSentencesTest::bothBelowOneChild);
        Sentence.test(terms, "else a SPLIT.", LayingSentencesTest::splits);
        Sentence.test(terms, "LOSSES on the way from it to a CHILD told to x: as many NODES as lie between m and x "
                + "(neither of them),", LayingSentencesTest::nodesBetween);
        Sentence.test(terms, "and, if it is a DOUBLING and x is not m, one more.", LayingSentencesTest::oneMore);
        Sentence.test(terms, "doublings(): the fewest DOUBLINGS of all ways", LayingSentencesTest::fewestDoublings);
        Sentence.test(terms, "losses(): the fewest LOSSES of all those ways that have the fewest DOUBLINGS.",
                LayingSentencesTest::fewestLosses);
        Sentence.test(terms, "ORDERS: all rows of a TREE's NODES with CHILDREN, each once, in which each comes behind "
                + "all that it lies below (those above it).", LayingSentencesTest::eachBehindThoseAbove);
    }

    private static void layingPromises() {
        Sentence.test("Promise 33", "The fewest DOUBLINGS of LAYING a BINARY TREE (of genes) into a PLAIN BINARY one.",
                LayingSentencesTest::leastAndMostDoublings);
        Sentence.test("Promise 33", "IllegalStateException: one is not so,", LayingSentencesTest::oneIsNotSo);
        Sentence.test("Promise 33", "or the second one has not all KINDS of the first one.",
                LayingSentencesTest::hasNotAll);
        Sentence.test("Promise 34", "The fewest LOSSES with so few DOUBLINGS.",
                LayingSentencesTest::leastAndMostLosses);
        Sentence.test("Promise 34", "Exceptions likewise.", LayingSentencesTest::exceptionsLikewise);
        Sentence.test("Promise 35", "How many ORDERS a TREE has", LayingSentencesTest::howManyOrders);
        Sentence.test("Promise 35", "(as a long that goes round at 64 bits;", LayingSentencesTest::beyond32Bits);
        Sentence.test("Promise 35", "1 of one without branchings).", LayingSentencesTest::withoutBranchings);
    }

    private static void countPromises() {
        Sentence.test("Promise 36", "0 the SHELVES that have a TREE (bits),", LayingSentencesTest::shelvesWithTree);
        Sentence.test("Promise 36", "1 TRIPLES, 2 SIGNS,", LayingSentencesTest::triplesAndSigns);
        Sentence.test("Promise 36", "3 N,", LayingSentencesTest::kindsCounted);
        Sentence.test("Promise 36", "4 bytes of the TAPE, 5 bytes WRITTEN last.", LayingSentencesTest::bytesCounted);
        Sentence.test("Promise 36", "NONE for another what.", LayingSentencesTest::anotherWhat);
    }

    private static void lays(String genes, String kinds, int doublings, int losses) {
        LineageBench x = Benches.withTrees(genes, kinds);
        Check.due("doublings of " + genes + " in " + kinds, x.doublings(0, 1), doublings);
        Check.due("losses of " + genes + " in " + kinds, x.losses(0, 1), losses);
    }

    private static void refuses(String genes, String kinds) {
        LineageBench x = Benches.withTrees(genes, kinds);
        Check.badState("doublings of " + genes + " in " + kinds, () -> x.doublings(0, 1));
        Check.badState("losses of " + genes + " in " + kinds, () -> x.losses(0, 1));
    }

    // ---- laying

    private static void kindsMayComeTwice() {
        lays("(a,a);", "a;", 1, 0);
        lays("((a,b),(a,b));", "(a,b);", 1, 0);
        lays(DEEPEST, "(a,b);", 22, 22);
        refuses("(a,b,c);", "((a,b),c);");
        refuses("(a,(a,a,a));", "a;");
    }

    private static void havingAll() {
        lays("(a,b);", "((a,b),(c,d));", 0, 0);
        lays("(a,b);", "(a,b);", 0, 0);
        refuses("(a,b);", "(a,a);");
        refuses("(a,b);", "(a,b,c);");
        refuses("(a,b);", "(a,c);");
    }

    private static void leafOfItsKind() {
        lays("a;", "a;", 0, 0);
        for (char letter = 'a'; letter <= 'l'; letter++) {
            lays(letter + ";", COMB, 0, 0);
        }
        refuses("a;", "b;");
    }

    private static void isOrLiesAbove() {
        // told to the node itself, not to one above: no losses
        lays("(a,b);", "((a,b),c);", 0, 0);
        lays("(a,b);", COMB, 0, 0);
        // a and c come together at the root alone
        lays("(a,c);", "((a,b),c);", 0, 1);
        lays("(a,a);", COMB, 1, 0);
    }

    private static void childToldToTheSame() {
        lays("(a,a);", "a;", 1, 0);
        lays("(a,(a,a));", "a;", 2, 0);
        lays("((a,b),a);", "(a,b);", 1, 1);
        lays("((a,c),b);", "((a,b),c);", 1, 3);
        lays("((a,b),(a,b));", "((a,b),c);", 1, 0);
    }

    private static void bothBelowOneChild() {
        // told to the root, both children would lie on one side: no way to have a split
        lays("(a,a);", "(a,b);", 1, 0);
        lays("(b,b);", "((a,b),c);", 1, 0);
        lays("((a,b),b);", "((a,b),c);", 1, 1);
        lays("((a,b),(a,b));", "(((a,b),c),d);", 1, 0);
    }

    private static void splits() {
        lays("(a,b);", "(a,b);", 0, 0);
        lays("(b,a);", "(a,b);", 0, 0);
        lays("((c,d),(b,a));", "((a,b),(c,d));", 0, 0);
        lays(COMB, COMB, 0, 0);
    }

    private static void nodesBetween() {
        lays("(a,c);", "((a,b),c);", 0, 1);
        lays("(a,d);", "(((a,b),c),d);", 0, 2);
        lays("(a,l);", COMB, 0, 10);
        lays("(a,k);", COMB, 0, 9);
        lays("(a,c);", "((a,b),(c,d));", 0, 2);
        lays("((a,c),b);", "(((a,c),d),b);", 0, 1);
    }

    private static void oneMore() {
        lays("((a,b),a);", "(a,b);", 1, 1);
        lays("((a,b),b);", "(a,b);", 1, 1);
        lays("(((a,b),c),a);", "((a,b),c);", 1, 2);
        lays("((a,l),(a,l));", COMB, 1, 20);
        lays("(a," + COMB.replace(";", ");"), COMB, 1, 11);
        // none more where both are told to m
        lays("((a,b),(a,b));", "(a,b);", 1, 0);
        lays("(a,a);", "a;", 1, 0);
    }

    private static void fewestDoublings() {
        lays("((a,b),(c,d));", "(((a,b),c),d);", 1, 3);
        lays("(((a,d),b),c);", "(((a,b),c),d);", 2, 7);
        lays("((a,b),c);", "((a,b),c);", 0, 0);
    }

    private static void fewestLosses() {
        lays("((a,a),b);", "(a,b);", 1, 0);
        lays("((a,a),c);", "((a,b),c);", 1, 1);
        lays("((a,b),(a,c));", "((a,b),c);", 1, 2);
        lays("((a,a),(b,b));", "((a,b),c);", 2, 0);
    }

    private static void leastAndMostDoublings() {
        lays("l;", COMB, 0, 0);
        lays("(a,".repeat(23) + "a" + ")".repeat(23) + ";", "a;", 23, 0);
        LineageBench x = Benches.withTrees(COMB);
        Check.due("a tree in itself", x.doublings(0, 0), 0);
        for (int shelf : Benches.NO_SHELVES) {
            Check.noIndex("genes on " + shelf, () -> x.doublings(shelf, 0));
            Check.noIndex("kinds on " + shelf, () -> x.doublings(0, shelf));
            Check.noIndex("no shelf, ahead of none", () -> x.doublings(1, shelf));
            Check.noIndex("no shelf, ahead of none", () -> x.doublings(shelf, 1));
        }
    }

    private static void oneIsNotSo() {
        LineageBench x = Benches.withTrees("((a,b),c);", "(a,b,c);", "((a,b),(a,c));", "(((a,b),c),(d,e,f));");
        Check.due("both are so", x.doublings(0, 0), 0);
        Check.due("genes need not be plain", x.doublings(2, 0), 1);
        Check.badState("genes not binary", () -> x.doublings(1, 0));
        Check.badState("kinds not binary", () -> x.doublings(0, 1));
        Check.badState("kinds not binary elsewhere", () -> x.doublings(0, 3));
        Check.badState("kinds not plain", () -> x.doublings(0, 2));
        Check.badState("kinds not plain, in itself", () -> x.doublings(2, 2));
        Check.badState("no genes", () -> x.doublings(7, 0));
        Check.badState("no kinds", () -> x.doublings(0, 7));
    }

    private static void hasNotAll() {
        LineageBench x = Benches.withTrees("((a,b),c);", "(a,b);", "l;", "((a,b),(c,d));");
        Check.badState("one is missing", () -> x.doublings(0, 1));
        Check.badState("all are missing", () -> x.doublings(0, 2));
        refuses("((a,c),(a,c));", "(a,b);");
        refuses("(a,(a,l));", "(a,b);");
        Check.badState("its one is missing", () -> x.doublings(2, 3));
        Check.due("none is missing", x.doublings(1, 0), 0);
        Check.due("one more", x.doublings(0, 3), 0);
    }

    private static void leastAndMostLosses() {
        lays("l;", COMB, 0, 0);
        lays("(a,b);", COMB, 0, 0);
        LineageBench x = Benches.withTrees("(a,l);", COMB);
        Check.due("as many as lie between", x.losses(0, 1), 10);
        // 22 doublings at the root, of each of which one child lies as far below as can be
        lays("(a,".repeat(22) + "(a,l)" + ")".repeat(22) + ";", COMB, 22, 10 + 22 * 11);
    }

    private static void exceptionsLikewise() {
        LineageBench x = Benches.withTrees("((a,b),c);", "(a,b,c);", "((a,b),(a,c));", "(a,b);");
        Check.due("both are so", x.losses(2, 0), 2);
        Check.badState("genes not binary", () -> x.losses(1, 0));
        Check.badState("kinds not binary", () -> x.losses(0, 1));
        Check.badState("kinds not plain", () -> x.losses(0, 2));
        Check.badState("one is missing", () -> x.losses(0, 3));
        Check.badState("no genes", () -> x.losses(7, 0));
        Check.badState("no kinds", () -> x.losses(0, 7));
        for (int shelf : Benches.NO_SHELVES) {
            Check.noIndex("genes on " + shelf, () -> x.losses(shelf, 0));
            Check.noIndex("kinds on " + shelf, () -> x.losses(0, shelf));
            Check.noIndex("no shelf, ahead of none", () -> x.losses(7, shelf));
            Check.noIndex("no shelf, ahead of none", () -> x.losses(shelf, 7));
        }
    }

    // ---- orders

    private static void ordersAre(String text, long want) {
        Check.due("orders of " + text, Benches.withTrees(text).orders(0), want);
    }

    private static void eachBehindThoseAbove() {
        ordersAre("((a,b),(c,d));", 2);
        ordersAre("((a,b),(c,d),(e,f));", 6);
        ordersAre("((a,b),(c,(d,e)));", 3);
        ordersAre("((a,(b,c)),(d,(e,f)));", 6);
        ordersAre("(((a,b),(c,d)),((e,f),(g,h)));", 80);
        ordersAre(COMB, 1);
    }

    private static void howManyOrders() {
        ordersAre("(a,b);", 1);
        ordersAre("(a,a);", 1);
        ordersAre("((a,a),(a,a));", 2);
        ordersAre("((a,b,c),(d,e,f),g);", 2);
        ordersAre(DEEPEST, 1);
        LineageBench x = new LineageBench();
        Check.badState("none", () -> x.orders(0));
        for (String text : new String[] {"((a,b),(c,(d,e)));", "a;", "((a,b),(c,(d,e)));", "((a,(b,c)),(d,(e,f)));"}) {
            Texts.read(x, 0, text);
            Check.due("one behind the other", x.orders(0), text.equals("a;") ? 1 : text.length() < 20 ? 3 : 6);
            Check.due("asked once more", x.orders(0), text.equals("a;") ? 1 : text.length() < 20 ? 3 : 6);
        }
        for (int shelf : Benches.NO_SHELVES) {
            Check.noIndex("shelf " + shelf, () -> x.orders(shelf));
        }
    }

    /** 299677188096000 are the most that a tree of 24 leaves can have, so that none goes round at 64 bits. */
    private static void beyond32Bits() {
        ordersAre("((a,b)" + ",(a,b)".repeat(11) + ");", 479001600L);
        String four = "((a,a),(a,a))";
        String eight = "(" + four + "," + four + ")";
        ordersAre("((" + eight + "," + eight + ")," + eight + ");", 299677188096000L);
        ordersAre("(" + eight + ",(" + eight + "," + eight + "));", 299677188096000L);
        String six = "((a,(a,a)),(a,(a,a)))";
        String twelve = "(" + six + "," + six + ")";
        ordersAre("(" + twelve + "," + twelve + ");", 58057888831488L);
    }

    private static void withoutBranchings() {
        for (char letter = 'a'; letter <= 'l'; letter++) {
            ordersAre(letter + ";", 1);
        }
    }

    // ---- count

    private static void shelvesWithTree() {
        LineageBench x = new LineageBench();
        Check.due("none", x.count(0), 0);
        for (int s = 0; s < 8; s++) {
            Texts.read(x, s, "a;");
            Check.due("up to " + s, x.count(0), (2 << s) - 1);
        }
        x.clear(0);
        x.clear(7);
        Check.due("without the first and the last", x.count(0), 126);
    }

    private static void triplesAndSigns() {
        LineageBench x = new LineageBench();
        for (int i = 1; i <= 80; i++) {
            x.triple(0, 1, 2);
            Check.due("triples", x.count(1), i);
        }
        Check.noMore("no more", () -> x.triple(0, 1, 2));
        Check.due("triples", x.count(1), 80);
        for (int i = 1; i <= 16; i++) {
            x.sign(0);
            Check.due("signs", x.count(2), i);
        }
        Check.noMore("no more", () -> x.sign(0));
        Check.due("signs", x.count(2), 16);
        x.untriple();
        Check.due("no triples", x.count(1), 0);
        Check.due("signs still", x.count(2), 16);
        x.unsign();
        Check.due("no signs", x.count(2), 0);
    }

    private static void kindsCounted() {
        LineageBench x = new LineageBench();
        Check.due("at first", x.count(3), 12);
        x.kinds(2);
        Check.due("the fewest", x.count(3), 2);
        x.kinds(12);
        Check.due("all", x.count(3), 12);
    }

    private static void bytesCounted() {
        LineageBench x = new LineageBench();
        Check.due("no tape", x.count(4), 0);
        Check.due("nothing written", x.count(5), 0);
        Texts.read(x, 0, DEEPEST);
        Check.due("used up", x.count(4), 0);
        Check.due("reading writes nothing", x.count(5), 0);
        x.write(0);
        Check.due("the longest", x.count(5), 94);
        x.again();
        Check.due("on the tape", x.count(4), 94);
        x.end(1);
        Check.due("its first byte", x.count(4), 1);
        x.end(0);
        Texts.lay(x, " ".repeat(400));
        Check.due("a full tape", x.count(4), 400);
        Check.due("the longest still", x.count(5), 94);
        x.end(0);
        Texts.read(x, 1, "a;");
        x.write(1);
        Check.due("the shortest", x.count(5), 2);
    }

    private static void anotherWhat() {
        LineageBench x = new LineageBench();
        for (int what : new int[] {-1, 6, 7, Integer.MIN_VALUE, Integer.MAX_VALUE}) {
            Check.due("count(" + what + ")", x.count(what), -1);
        }
    }
}
