/** Promises 1 and 9 to 18, and how often an object can be called, sentence by sentence. */
public final class TreeSentencesTest {
    private static final String ALL = "(a,b,c,d,e,f,g,h,i,j,k,l);";
    private static final String COMB = "(".repeat(11) + "a,b),c),d),e),f),g),h),i),j),k),l);";

    public static void main(String[] args) {
        Sentence.open(args, "What it is", "Promise 1", "Promise 9", "Promise 10", "Promise 11", "Promise 12",
                "Promise 13", "Promise 14", "Promise 15", "Promise 16", "Promise 17", "Promise 18");
        objects();
        lookPromises();
        clusterPromises();
        comparingPromises();
        cutPromises();
        agreePromises();
        Sentence.close();
    }

    private static void objects() {
        Sentence.noCase("What it is", "A bench for lineages: trees of kinds of living things, read from texts and "
                + "written in one form; triples that tell who is nearer, joined to one tree or told where they cannot "
                + "be; trees that agree, all or by most; distances that are a tree's, or a clock's; signs that came "
                + "once and never went; least changes of signs; trees of genes laid into trees of kinds by least "
                + "doublings and losses; and in how many orders the branchings may have come.");
        Sentence.test("What it is", "An object is used for at most 512 calls after it has been made; what later calls "
                + "answer is free.", TreeSentencesTest::all512Calls);
        Sentence.test("Promise 1", "No TREES, TRIPLES, SIGNS", TreeSentencesTest::nothingAtFirst);
        Sentence.test("Promise 1", "STATES and DISTANCES are 0", TreeSentencesTest::zerosAtFirst);
        Sentence.test("Promise 1", "N is 12.", TreeSentencesTest::twelveAtFirst);
        Sentence.test("Promise 9", "A SHELF has no TREE any more: whether it had one.", TreeSentencesTest::clearing);
    }

    private static void lookPromises() {
        Sentence.test("Promise 10", "Of a TREE, what 0: LEAVES, 1: NODES,", TreeSentencesTest::leavesAndNodes);
        Sentence.test("Promise 10", "2: the set of its KINDS,", TreeSentencesTest::setOfKinds);
        Sentence.test("Promise 10", "3: 1 if it is PLAIN,", TreeSentencesTest::plainOrNot);
        Sentence.test("Promise 10", "4: 1 if it is BINARY,", TreeSentencesTest::binaryOrNot);
        Sentence.test("Promise 10", "5: how many NODES lie from the ROOT to the farthest LEAF, both counted.",
                TreeSentencesTest::bothCounted);
        Sentence.test("Promise 10", "NoSuchElementException: another what.", TreeSentencesTest::anotherWhat);
    }

    private static void clusterPromises() {
        Sentence.test("Promise 11", "Whether a PLAIN TREE has a CLUSTER.", TreeSentencesTest::allClusters);
        Sentence.test("Promise 12", "The CLUSTER of the lowest NODE of a PLAIN TREE that has all KINDS of a set",
                TreeSentencesTest::lowestNode);
        Sentence.test("Promise 12", "NONE if there is none,", TreeSentencesTest::noNodeHasAll);
        Sentence.test("Promise 12", "or the set is empty.", TreeSentencesTest::emptySet);
        Sentence.test("Promise 13", "Of three KINDS in a PLAIN TREE: 0 it shows ab|c, 1 ac|b, 2 bc|a, 3 none of these.",
                TreeSentencesTest::allFourAnswers);
        Sentence.test("Promise 13", "IndexOutOfBoundsException: of a SHELF or KIND",
                TreeSentencesTest::noShelfOrKindIsNearer);
        Sentence.test("Promise 13", "NoSuchElementException: two are one,", TreeSentencesTest::twoAreOne);
        Sentence.test("Promise 13", "or the TREE has not all.", TreeSentencesTest::treeHasNotAll);
    }

    private static void comparingPromises() {
        Sentence.test("Promise 14", "How many CLUSTERS just one of two PLAIN TREES has.",
                TreeSentencesTest::justOneHas);
        Sentence.test("Promise 15", "Of all sets of three KINDS that both PLAIN TREES have: of how many both show the "
                + "same", TreeSentencesTest::threeOfBoth);
        Sentence.test("Promise 15", "(none of the TRIPLES counts, too).", TreeSentencesTest::noneOfTriplesCounts);
    }

    private static void cutPromises() {
        Sentence.test("Promise 16", "A PLAIN TREE cut down to the KINDS of a set that it has",
                TreeSentencesTest::kindsThatItHas);
        Sentence.test("Promise 16", "(a NODE left with one CHILD is that one)", TreeSentencesTest::leftWithOneChild);
        Sentence.test("Promise 16", "comes to a SHELF: how many LEAVES.", TreeSentencesTest::cutComesToShelf);
        Sentence.test("Promise 16", "IllegalArgumentException: it has none of them.", TreeSentencesTest::noneOfThem);
    }

    private static void agreePromises() {
        Sentence.test("Promise 17", "Of the PLAIN TREES of some SHELVES (bits),", TreeSentencesTest::bitsOfShelves);
        Sentence.test("Promise 17", "which all have the same KINDS, the TREE of the CLUSTERS that all of them have "
                + "comes to a SHELF: how many NODES.", TreeSentencesTest::allOfThemHave);
        Sentence.test("Promise 17", "IndexOutOfBoundsException: of to", TreeSentencesTest::agreeToNoShelf);
        Sentence.test("Promise 17", "IllegalArgumentException: no SHELF,", TreeSentencesTest::agreeOfNone);
        Sentence.test("Promise 17", "or a bit of none", TreeSentencesTest::bitOfNoShelf);
        Sentence.test("Promise 17", "IllegalStateException: also if their KINDS are not the same.",
                TreeSentencesTest::otherKinds);
        Sentence.test("Promise 18", "Likewise,", TreeSentencesTest::mostLikewise);
        Sentence.test("Promise 18", "of the CLUSTERS that more than half of them have.",
                TreeSentencesTest::moreThanHalf);
    }

    // ---- objects

    private static void all512Calls() {
        LineageBench x = new LineageBench();
        for (int i = 0; i < 80; i++) {
            Check.due("triple", x.triple(0, 1, 2), i + 1);
        }
        for (int i = 0; i < 16; i++) {
            Check.due("sign", x.sign(3), i + 1);
        }
        for (int i = 0; i < 100; i++) {
            Check.due("nearest and clock", x.clock(i % 8), true);
            x.nearest(i % 8);
        }
        for (int i = 0; i < 106; i++) {
            Check.due("feed", x.feed(0, 0, 0, 0, 0), 20);
            Check.due("end", x.end(0), true);
        }
        Check.due("call 509", x.count(1), 80);
        Check.due("call 510", x.count(2), 16);
        Check.due("call 511", x.shown(7), 80);
        Check.due("call 512", x.write(7), COMB.length());
    }

    private static void nothingAtFirst() {
        LineageBench x = new LineageBench();
        Check.due("shelves", x.count(0), 0);
        Check.due("triples", x.count(1), 0);
        Check.due("signs", x.count(2), 0);
        Check.due("bytes of the tape", x.count(4), 0);
        Check.due("bytes written", x.count(5), 0);
        Check.due("untriple()", x.untriple(), 0);
        Check.due("unsign()", x.unsign(), 0);
        for (int s = 0; s < 8; s++) {
            Check.due("clear(" + s + ")", x.clear(s), false);
        }
        Check.due("build without triples", x.build(4095, 0), 0);
        Check.due("form", Texts.written(x, 0), ALL);
        Check.due("perfect without signs", x.perfect(4095, 1), 0);
        Check.due("form", Texts.written(x, 1), ALL);
    }

    private static void zerosAtFirst() {
        LineageBench x = Benches.withTrees(ALL);
        for (int row = 0; row < 8; row++) {
            Check.due("no changes in row " + row, x.changes(0, row), 0);
            for (int k = 0; k < 6; k++) {
                x.state(row, k, 0);
            }
            Check.due("state 0 is what half of them had", x.changes(0, row), 0);
        }
        Check.due("four points", x.fourPoints(), true);
        Check.due("clock", x.clock(1), true);
        Check.due("all are as near", Texts.written(x, 1), ALL);
    }

    private static void twelveAtFirst() {
        LineageBench x = new LineageBench();
        Check.due("count(3)", x.count(3), 12);
        x.nearest(0);
        Check.due("kinds of nearest()", x.look(0, 2), 4095);
        x.clock(0);
        Check.due("kinds of clock()", x.look(0, 2), 4095);
        x.distance(10, 11, 1);
        Check.due("the last two count", x.fourPoints(), false);
        x.kinds(5);
        Check.due("another object's is its own", new LineageBench().count(3), 12);
    }

    private static void clearing() {
        for (int s = 0; s < 8; s++) {
            LineageBench x = Benches.withTrees("a;", "b;", "c;", "d;", "e;", "f;", "g;", "h;");
            Check.due("it had one", x.clear(s), true);
            Check.due("it has none", x.count(0), 255 & ~(1 << s));
            Check.due("it had none", x.clear(s), false);
            int shelf = s;
            Check.badState("none", () -> x.look(shelf, 0));
            Check.due("a new one", Texts.read(x, s, "(a,b);"), 2);
            Check.due("it had one", x.clear(s), true);
        }
        LineageBench x = new LineageBench();
        for (int s : Benches.NO_SHELVES) {
            Check.noIndex("clear(" + s + ")", () -> x.clear(s));
        }
    }

    // ---- look

    private static int look(String text, int what) {
        return Benches.withTrees(text).look(0, what);
    }

    private static String chain(int open) {
        return "(a,".repeat(open) + "b" + ")".repeat(open) + ";";
    }

    private static void leavesAndNodes() {
        Check.due("one leaf", look("a;", 0), 1);
        Check.due("its nodes", look("a;", 1), 1);
        Check.due("two leaves of one kind", look("(a,a);", 0), 2);
        Check.due("its nodes", look("(a,a);", 1), 3);
        Check.due("most leaves", look(chain(23), 0), 24);
        Check.due("most nodes", look(chain(23), 1), 47);
        Check.due("most leaves of one node", look("(" + "a,".repeat(23) + "b);", 0), 24);
        Check.due("its nodes", look("(" + "a,".repeat(23) + "b);", 1), 25);
    }

    private static void setOfKinds() {
        Check.due("the first", look("a;", 2), 1);
        Check.due("the last", look("l;", 2), 2048);
        Check.due("all", look(ALL, 2), 4095);
        Check.due("one that comes twice", look("(b,b);", 2), 2);
        Check.due("one that comes three times", look("(b,(b,b));", 2), 2);
        Check.due("all that come twice", look("((a,l),((a,b),(b,l)));", 2), 2051);
    }

    private static void plainOrNot() {
        Check.due("one leaf", look("a;", 3), 1);
        Check.due("all kinds", look(ALL, 3), 1);
        Check.due("a comb", look(COMB, 3), 1);
        Check.due("twice, far from each other", look("((a,b),(c,(d,(e,a))));", 3), 0);
        Check.due("two leaves of one kind", look("(l,l);", 3), 0);
    }

    private static void binaryOrNot() {
        Check.due("one leaf", look("a;", 4), 1);
        Check.due("two", look("(a,a);", 4), 1);
        Check.due("a comb", look(COMB, 4), 1);
        Check.due("three at the root", look("((a,b),c,d);", 4), 0);
        Check.due("three below the root", look("((a,b,c),d);", 4), 0);
        Check.due("three, the last ones", look("((a,b),(c,(d,e,f)));", 4), 0);
    }

    private static void bothCounted() {
        Check.due("one leaf is both", look("a;", 5), 1);
        Check.due("two leaves", look("(a,b);", 5), 2);
        Check.due("all at the root", look(ALL, 5), 2);
        Check.due("the farthest last", look("(a,(b,(c,d)));", 5), 4);
        Check.due("the farthest first", look("(((c,d),b),a);", 5), 4);
        Check.due("the farthest of two", look("((a,b),(c,(d,e)),(f,g));", 5), 4);
        Check.due("the most", look(chain(23), 5), 24);
    }

    private static void anotherWhat() {
        LineageBench x = Benches.withTrees("(a,b);", "(a,a);");
        for (int what : new int[] {-1, 6, 7, Integer.MIN_VALUE, Integer.MAX_VALUE}) {
            Check.noSuch("look(0, " + what + ")", () -> x.look(0, what));
            Check.noSuch("look(1, " + what + ")", () -> x.look(1, what));
            Check.badState("none, ahead of it", () -> x.look(2, what));
            Check.noIndex("no shelf, ahead of it", () -> x.look(8, what));
        }
    }

    // ---- clusters

    private static int clustersAmong(String text, int from, int to) {
        LineageBench x = Benches.withTrees(text);
        int found = 0;
        for (int set = from; set < to; set++) {
            found += x.has(0, set) ? 1 : 0;
        }
        return found;
    }

    private static void allClusters() {
        int[] found = new int[2];
        // an object has at most 512 calls
        for (int from = 0; from < 4096; from += 256) {
            found[0] += clustersAmong(COMB, from, from + 256);
            found[1] += clustersAmong("((a,b),(c,(d,l)),e);", from, from + 256);
        }
        Check.due("clusters of a comb", found[0], 23);
        Check.due("clusters of a tree", found[1], 10);
        LineageBench x = Benches.withTrees("((a,b),(c,(d,l)),e);", "l;", "(a,a);");
        Check.due("the root's", x.has(0, Texts.set("abcdel")), true);
        Check.due("a leaf's", x.has(0, Texts.set("l")), true);
        Check.due("the empty set", x.has(0, 0), false);
        Check.due("one leaf and the empty set", x.has(1, 0), false);
        Check.due("a bit of no kind", x.has(0, 1 << 12), false);
        Check.due("a bit of no kind more", x.has(0, 1 << 12 | 3), false);
        Check.due("the highest bit more", x.has(0, 1 << 31 | 3), false);
        Check.due("all bits", x.has(0, -1), false);
        Check.badState("not plain", () -> x.has(2, 1));
    }

    private static void lowestNode() {
        LineageBench x = Benches.withTrees("((a,b),(c,(d,l)),e);", "l;", COMB, "(a,a);");
        Check.due("of one kind its leaf", x.least(0, Texts.set("d")), Texts.set("d"));
        Check.due("a cluster its own", x.least(0, Texts.set("cdl")), Texts.set("cdl"));
        Check.due("some of a cluster", x.least(0, Texts.set("cl")), Texts.set("cdl"));
        Check.due("of two sides the root's", x.least(0, Texts.set("al")), Texts.set("abcdel"));
        Check.due("all", x.least(0, Texts.set("abcdel")), Texts.set("abcdel"));
        Check.due("of one leaf", x.least(1, 2048), 2048);
        for (int k = 1; k < 12; k++) {
            Check.due("a and kind " + k + " of a comb", x.least(2, 1 | 1 << k), (2 << k) - 1);
        }
        Check.badState("not plain", () -> x.least(3, 1));
    }

    private static void noNodeHasAll() {
        LineageBench x = Benches.withTrees("((a,b),(c,(d,l)),e);", "l;");
        Check.due("one that it has not", x.least(0, Texts.set("f")), -1);
        Check.due("one that it has and one that it has not", x.least(0, Texts.set("af")), -1);
        Check.due("all kinds", x.least(0, 4095), -1);
        Check.due("of one leaf", x.least(1, 1), -1);
        Check.due("a bit of no kind", x.least(0, 1 << 12 | 1), -1);
        Check.due("the highest bit", x.least(0, Integer.MIN_VALUE), -1);
        Check.due("all bits", x.least(0, -1), -1);
    }

    private static void emptySet() {
        LineageBench x = Benches.withTrees("((a,b),(c,(d,l)),e);", "l;", "(a,a);");
        Check.due("of a tree", x.least(0, 0), -1);
        Check.due("of one leaf", x.least(1, 0), -1);
        Check.badState("not plain", () -> x.least(2, 0));
        Check.badState("none", () -> x.least(3, 0));
    }

    private static void allFourAnswers() {
        LineageBench x = Benches.withTrees("((a,b),(c,(d,l)),e);", "(a,a);");
        Check.due("ab|c", x.nearer(0, 0, 1, 2), 0);
        Check.due("ba|c", x.nearer(0, 1, 0, 2), 0);
        Check.due("a c b", x.nearer(0, 0, 2, 1), 1);
        Check.due("b c a", x.nearer(0, 1, 2, 0), 1);
        Check.due("c a b", x.nearer(0, 2, 0, 1), 2);
        Check.due("c b a", x.nearer(0, 2, 1, 0), 2);
        Check.due("a c e", x.nearer(0, 0, 2, 4), 3);
        Check.due("dl|c, the last kind", x.nearer(0, 3, 11, 2), 0);
        Check.badState("not plain", () -> x.nearer(1, 0, 1, 2));
        Check.badState("none", () -> x.nearer(2, 0, 1, 2));
    }

    private static void noShelfOrKindIsNearer() {
        LineageBench x = Benches.withTrees(ALL);
        Check.due("the first and the last kinds", x.nearer(0, 0, 11, 10), 3);
        for (int kind : Benches.NO_KINDS) {
            Check.noIndex("first kind " + kind, () -> x.nearer(0, kind, 1, 2));
            Check.noIndex("second kind " + kind, () -> x.nearer(0, 1, kind, 2));
            Check.noIndex("third kind " + kind, () -> x.nearer(0, 1, 2, kind));
            Check.noIndex("no tree and kind " + kind, () -> x.nearer(1, 1, 2, kind));
            Check.noIndex("two are one and kind " + kind, () -> x.nearer(0, 1, 1, kind));
        }
        for (int shelf : Benches.NO_SHELVES) {
            Check.noIndex("shelf " + shelf, () -> x.nearer(shelf, 0, 1, 2));
            Check.noIndex("two are one and shelf " + shelf, () -> x.nearer(shelf, 0, 0, 2));
        }
    }

    private static void twoAreOne() {
        LineageBench x = Benches.withTrees(ALL, "(a,a);", "(a,b);");
        Check.noSuch("a a b", () -> x.nearer(0, 0, 0, 1));
        Check.noSuch("a b a", () -> x.nearer(0, 0, 1, 0));
        Check.noSuch("b a a", () -> x.nearer(0, 1, 0, 0));
        Check.noSuch("l l l", () -> x.nearer(0, 11, 11, 11));
        Check.noSuch("a a b of a tree of these", () -> x.nearer(2, 0, 0, 1));
        Check.badState("not plain, ahead of it", () -> x.nearer(1, 0, 0, 1));
        Check.badState("none, ahead of it", () -> x.nearer(3, 0, 0, 1));
    }

    private static void treeHasNotAll() {
        LineageBench x = Benches.withTrees("((a,b),(c,d));", "l;", "(a,a);");
        Check.due("it has all", x.nearer(0, 0, 1, 3), 0);
        Check.noSuch("not the third", () -> x.nearer(0, 0, 1, 4));
        Check.noSuch("not the second", () -> x.nearer(0, 0, 4, 1));
        Check.noSuch("not the first", () -> x.nearer(0, 4, 0, 1));
        Check.noSuch("none of them", () -> x.nearer(0, 4, 5, 6));
        Check.noSuch("two of three of one leaf", () -> x.nearer(1, 11, 0, 1));
        Check.badState("not plain, ahead of it", () -> x.nearer(2, 4, 5, 6));
        Check.badState("none, ahead of it", () -> x.nearer(3, 4, 5, 6));
    }

    // ---- two trees

    private static void justOneHas() {
        LineageBench x = Benches.withTrees("((a,b),(c,d));", "(a,b,c,d);", "((a,c),(b,d));", "e;", "a;", COMB,
                "(a,a);");
        Check.due("a tree and itself", x.unlike(0, 0), 0);
        Check.due("one leaf and itself", x.unlike(3, 3), 0);
        Check.due("more in the first", x.unlike(0, 1), 2);
        Check.due("more in the second", x.unlike(1, 0), 2);
        Check.due("in both some", x.unlike(0, 2), 4);
        Check.due("no kind in both", x.unlike(0, 3), 8);
        Check.due("two leaves", x.unlike(3, 4), 2);
        Check.due("a leaf of it", x.unlike(4, 0), 6);
        Check.due("a comb", x.unlike(5, 1), 23 + 5 - 2 * 5);
        Check.badState("the first not plain", () -> x.unlike(6, 0));
        Check.badState("the second not plain", () -> x.unlike(0, 6));
        Check.badState("the first none", () -> x.unlike(7, 0));
        Check.badState("the second none", () -> x.unlike(0, 7));
    }

    private static void threeOfBoth() {
        LineageBench x = Benches.withTrees(COMB, "((a,b),(c,d));", "((a,b),(e,f));", "(a,(b,c));", "l;", "(a,a);");
        Check.due("all sets of three", x.alike(0, 0), 220);
        Check.due("just two kinds of both", x.alike(1, 2), 0);
        Check.due("just three, not the same", x.alike(1, 3), 0);
        Check.due("one leaf", x.alike(4, 4), 0);
        // of three kinds the first, the second or the last is missing, in both or in one
        for (String two : new String[] {"(b,c);", "(a,c);", "(a,b);"}) {
            Texts.read(x, 6, two);
            Check.due("two kinds and themselves", x.alike(6, 6), 0);
            Check.due("two kinds of the first", x.alike(6, 3), 0);
            Check.due("two kinds of the second", x.alike(3, 6), 0);
        }
        Check.due("two of four the same", x.alike(0, 1), 2);
        Check.due("the other way round", x.alike(1, 0), 2);
        Check.badState("the first not plain", () -> x.alike(5, 0));
        Check.badState("the second not plain", () -> x.alike(0, 5));
        Check.badState("the first none", () -> x.alike(7, 0));
        Check.badState("the second none", () -> x.alike(0, 7));
    }

    private static void noneOfTriplesCounts() {
        LineageBench x = Benches.withTrees(ALL, "(a,b,c);", "((a,b),c);", "((a,b),c,d);");
        Check.due("none in both", x.alike(0, 0), 220);
        Check.due("none in both, three", x.alike(0, 1), 1);
        Check.due("none in the first alone", x.alike(1, 2), 0);
        Check.due("none in the second alone", x.alike(2, 1), 0);
        Check.due("some", x.alike(0, 3), 2);
    }

    // ---- cut

    private static void cutTo(String text, int set, String want) {
        LineageBench x = Benches.withTrees(text);
        Check.due("cut of " + text, x.cut(0, set, 1), want.replaceAll("[^a-l]", "").length());
        Check.due("form of it", Texts.written(x, 1), want);
        Check.due("what was cut stays", x.unlike(0, 0) == 0 && x.look(0, 0) == text.replaceAll("[^a-l]", "").length(),
                true);
    }

    private static void kindsThatItHas() {
        String text = "((a,b),(c,(d,l)),e);";
        cutTo(text, Texts.set("abcdel"), "(((d,l),c),(a,b),e);");
        cutTo(text, 4095, "(((d,l),c),(a,b),e);");
        cutTo(text, Texts.set("abcdelfgh"), "(((d,l),c),(a,b),e);");
        cutTo(text, Texts.set("bfg"), "b;");
        cutTo("l;", 4095, "l;");
        // bits of no kind tell none
        cutTo(text, -1, "(((d,l),c),(a,b),e);");
        cutTo(text, 1 << 12 | Texts.set("ae"), "(a,e);");
        cutTo(text, Integer.MIN_VALUE | Texts.set("ae"), "(a,e);");
    }

    private static void leftWithOneChild() {
        cutTo("((a,b),(c,(d,l)),e);", Texts.set("l"), "l;");
        cutTo("((a,b),(c,(d,l)),e);", Texts.set("dl"), "(d,l);");
        cutTo("((a,b),(c,(d,l)),e);", Texts.set("acl"), "((c,l),a);");
        cutTo("((a,b),(c,(d,l)),e);", Texts.set("ace"), "(a,c,e);");
        cutTo("(((a,b),c),d);", Texts.set("ac"), "(a,c);");
        cutTo(COMB, Texts.set("al"), "(a,l);");
        cutTo(COMB, Texts.set("bkl"), "((b,k),l);");
    }

    private static void cutComesToShelf() {
        LineageBench x = Benches.withTrees("((a,b),(c,d));", "(k,l);");
        Check.due("to another one", x.cut(0, 7, 1), 3);
        Check.due("form", Texts.written(x, 1), "((a,b),c);");
        Check.due("in its own place", x.cut(0, 11, 0), 3);
        Check.due("form", Texts.written(x, 0), "((a,b),d);");
        Check.due("to the last one", x.cut(0, 8, 7), 1);
        Check.due("shelves", x.count(0), 1 | 2 | 128);
        for (int to : Benches.NO_SHELVES) {
            Check.noIndex("to " + to, () -> x.cut(0, 7, to));
            Check.noIndex("of " + to, () -> x.cut(to, 7, 0));
        }
    }

    private static void noneOfThem() {
        LineageBench x = Benches.withTrees("((a,b),(c,d));", "(k,l);", "(a,a);");
        for (int set : new int[] {0, Texts.set("efghijkl"), 1 << 12, Integer.MIN_VALUE}) {
            Check.badArgument("set " + set, () -> x.cut(0, set, 1));
            Check.badArgument("set " + set + " in its own place", () -> x.cut(0, set, 0));
            Check.badArgument("set " + set + " to an empty one", () -> x.cut(0, set, 5));
            Check.badState("not plain, ahead of it", () -> x.cut(2, set, 1));
            Check.badState("none, ahead of it", () -> x.cut(3, set, 1));
        }
        Check.due("nothing came", Texts.written(x, 1), "(k,l);");
        Check.due("it stays", Texts.written(x, 0), "((a,b),(c,d));");
        Check.due("shelves", x.count(0), 7);
    }

    // ---- trees that agree

    private static LineageBench eight() {
        return Benches.withTrees("((a,b),(c,d));", "((a,b),(c,d));", "((a,b),(c,d));", "((a,b),c,d);", "((a,b),c,d);",
                "((a,c),(b,d));", "((a,c),(b,d));", "((a,d),(b,c));");
    }

    private static void bitsOfShelves() {
        for (int s = 0; s < 8; s++) {
            LineageBench x = eight();
            String own = Texts.written(x, s);
            Check.due("strict of shelf " + s, x.strict(1 << s, 7 - s), x.look(s, 1));
            Check.due("form", Texts.written(x, 7 - s), own);
            LineageBench y = eight();
            Check.due("most of shelf " + s, y.most(1 << s, 7 - s), y.look(s, 1));
            Check.due("form", Texts.written(y, 7 - s), own);
        }
        LineageBench x = eight();
        Check.due("strict of all eight", x.strict(255, 0), 5);
        Check.due("form", Texts.written(x, 0), "(a,b,c,d);");
        LineageBench one = Benches.withTrees("", "", "", "", "", "", "", "l;");
        Check.due("strict of one leaf", one.strict(128, 0), 1);
        Check.due("most of one leaf", one.most(128, 1), 1);
        Check.due("form", Texts.written(one, 1), "l;");
    }

    private static void allOfThemHave() {
        LineageBench x = eight();
        Check.due("of the same", x.strict(7, 7), 7);
        Check.due("form", Texts.written(x, 7), "((a,b),(c,d));");
        Check.due("one has less", x.strict(15, 7), 6);
        Check.due("form", Texts.written(x, 7), "((a,b),c,d);");
        Check.due("nothing but the leaves and the root", x.strict(32 + 1, 7), 5);
        Check.due("form", Texts.written(x, 7), "(a,b,c,d);");
        Check.due("in the place of one of them", x.strict(32 + 1, 0), 5);
        Check.due("form", Texts.written(x, 0), "(a,b,c,d);");
    }

    private static void agreeToNoShelf() {
        LineageBench x = eight();
        for (int to : Benches.NO_SHELVES) {
            for (int set : new int[] {1, 255, 0, 256}) {
                Check.noIndex("strict of " + set + " to " + to, () -> x.strict(set, to));
                Check.noIndex("most of " + set + " to " + to, () -> x.most(set, to));
            }
        }
    }

    private static void agreeOfNone() {
        LineageBench x = eight();
        Check.badArgument("strict of 0", () -> x.strict(0, 0));
        Check.badArgument("most of 0", () -> x.most(0, 0));
        LineageBench y = new LineageBench();
        Check.badArgument("strict of 0, no trees", () -> y.strict(0, 0));
        Check.badArgument("most of 0, no trees", () -> y.most(0, 0));
        Check.due("it stays", Texts.written(x, 0), "((a,b),(c,d));");
    }

    private static void bitOfNoShelf() {
        LineageBench x = eight();
        for (int set : new int[] {256, 257, 511, 1 << 30, Integer.MIN_VALUE, Integer.MIN_VALUE | 1, -1, -256}) {
            Check.badArgument("strict of " + set, () -> x.strict(set, 0));
            Check.badArgument("most of " + set, () -> x.most(set, 0));
        }
        LineageBench y = new LineageBench();
        Check.badArgument("strict, ahead of none", () -> y.strict(257, 0));
        Check.badArgument("most, ahead of none", () -> y.most(257, 0));
        Check.due("it stays", Texts.written(x, 0), "((a,b),(c,d));");
    }

    private static void otherKinds() {
        LineageBench x = Benches.withTrees("((a,b),c);", "((a,b),d);", "((a,b),(c,d));", "(a,b);", "(a,a);",
                "(c,(b,a));");
        for (int set : new int[] {1 | 2, 1 | 4, 4 | 8, 1 | 32 | 2, 2 | 1 | 32, 16, 1 | 16, 64, 1 | 64, 1 | 32 | 128}) {
            Check.badState("strict of " + set, () -> x.strict(set, 7));
            Check.badState("most of " + set, () -> x.most(set, 7));
            Check.badState("strict of " + set + " in a place", () -> x.strict(set, 0));
        }
        Check.due("nothing came", x.count(0), 63);
        Check.due("it stays", Texts.written(x, 0), "((a,b),c);");
        Check.due("the same kinds", x.strict(1 | 32, 7), 5);
    }

    private static void mostLikewise() {
        LineageBench x = eight();
        Check.due("nodes", x.most(1, 7), 7);
        Check.noIndex("no shelf", () -> x.most(1, 8));
        Check.badArgument("of none", () -> x.most(0, 7));
        Check.badArgument("a bit of none", () -> x.most(256, 7));
        x.clear(3);
        Check.badState("no tree", () -> x.most(9, 7));
        Texts.read(x, 3, "(a,a);");
        Check.badState("not plain", () -> x.most(9, 7));
        Texts.read(x, 3, "(a,b);");
        Check.badState("other kinds", () -> x.most(9, 7));
        Check.due("it stays", Texts.written(x, 7), "((a,b),(c,d));");
        Check.due("in the place of one of them", x.most(1 | 32, 0), 5);
        Check.due("form", Texts.written(x, 0), "(a,b,c,d);");
    }

    private static void moreThanHalf() {
        // ab is in five of eight, cd in three, ac and bd in two
        LineageBench x = eight();
        Check.due("five of eight", x.most(255, 7), 6);
        Check.due("form", Texts.written(x, 7), "((a,b),c,d);");
        LineageBench y = eight();
        Check.due("half of two is not", y.most(1 | 32, 7), 5);
        Check.due("two of three are", y.most(1 | 2 | 32, 7), 7);
        Check.due("form", Texts.written(y, 7), "((a,b),(c,d));");
        Check.due("two of four are not", y.most(1 | 2 | 32 | 64, 7), 5);
        Check.due("form", Texts.written(y, 7), "(a,b,c,d);");
        Check.due("three of five are", y.most(1 | 2 | 4 | 32 | 64, 7), 7);
        LineageBench z = eight();
        Texts.read(z, 3, "(a,b,c,d);");
        Check.due("four of eight are not", z.most(255, 0), 5);
        Check.due("three of six are not", eight().most(1 | 2 | 4 | 32 | 64 | 128, 0), 5);
        Check.due("four of seven are", eight().most(2 | 4 | 8 | 16 | 32 | 64 | 128, 0), 6);
    }
}
