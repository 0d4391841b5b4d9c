/** What the terms say of triples and joining, and promises 19 to 22, sentence by sentence. */
public final class TripleSentencesTest {
    /** Two parts that cannot be, side by side. */
    private static final String[] TWO_CLASHES = {"bcd", "cdb", "bca", "cda", "akl", "kla", "akb", "klb"};

    public static void main(String[] args) {
        Sentence.open(args, "Terms 2", "Promise 19", "Promise 20", "Promise 21", "Promise 22");
        terms();
        promises();
        Sentence.close();
    }

    private static void terms() {
        String terms = "Terms 2";
        Sentence.test(terms, "TRIPLES (at most 80):", TripleSentencesTest::all80Count);
        Sentence.test(terms, "ab|c of three unlike KINDS: a and b are nearer to each other than to c.",
                TripleSentencesTest::placesOfTriple);
        Sentence.test(terms, "A PLAIN TREE that has all three shows it, if some CLUSTER has a and b and not c.",
                TripleSentencesTest::showsWithAllThree);
        Sentence.test(terms, "JOINING a set of KINDS that is not empty by TRIPLES:", TripleSentencesTest::emptySet);
        Sentence.test(terms, "of one KIND that LEAF.", TripleSentencesTest::oneKind);
        Sentence.test(terms, "Else two KINDS of the set are LINKED, if there is a TRIPLE of them as a and b whose c is "
                + "of the set, too", TripleSentencesTest::thirdOfSet);
        Sentence.test(terms, "PARTS are the sets of those that hang together by LINKS.",
                TripleSentencesTest::hangTogether);
        Sentence.test(terms, "If there is just one PART the set cannot be: that is the CLASH.",
                TripleSentencesTest::justOnePart);
        Sentence.test(terms, "Else a NODE that has as CHILDREN what comes of JOINING each PART, in the order of their "
                + "least KINDS", TripleSentencesTest::eachPart);
        Sentence.test(terms, "(the first CLASH that is met is told).", TripleSentencesTest::firstClash);
    }

    private static void promises() {
        Sentence.test("Promise 19", "A TRIPLE ab|c more: how many there are.", TripleSentencesTest::howMany);
        Sentence.test("Promise 19", "IllegalArgumentException: two are one", TripleSentencesTest::twoAreOne);
        Sentence.test("Promise 19", "UnsupportedOperationException: there are 80.", TripleSentencesTest::thereAre80);
        Sentence.test("Promise 20", "There are no TRIPLES any more: how many there were.",
                TripleSentencesTest::noneAnyMore);
        Sentence.test("Promise 21", "What comes of JOINING a set by all TRIPLES comes to a SHELF: 0",
                TripleSentencesTest::comesToShelf);
        Sentence.test("Promise 21", "else the CLASH, and nothing comes.", TripleSentencesTest::nothingComes);
        Sentence.test("Promise 21", "IllegalArgumentException: the set is not 1 to 4095.",
                TripleSentencesTest::notASet);
        Sentence.test("Promise 22", "How many TRIPLES a PLAIN TREE shows.", TripleSentencesTest::howManyShown);
    }

    private static void builds(LineageBench x, String set, String want) {
        Check.due("build " + set, x.build(Texts.set(set), 3), 0);
        Check.due("form of " + set, Texts.written(x, 3), want);
    }

    private static void clashes(LineageBench x, String set, String want) {
        Check.due("build " + set, x.build(Texts.set(set), 3), Texts.set(want));
    }

    private static LineageBench with80(int a, int b, int c) {
        LineageBench x = new LineageBench();
        for (int i = 0; i < 79; i++) {
            x.triple(3, 4, 5);
        }
        x.triple(a, b, c);
        return x;
    }

    // ---- terms

    private static void all80Count() {
        LineageBench x = with80(0, 1, 2);
        Check.due("80", x.count(1), 80);
        Check.noMore("the 81st", () -> x.triple(6, 7, 8));
        Check.due("80 still", x.count(1), 80);
        builds(x, "abc", "((a,b),c);");
        builds(x, "def", "((d,e),f);");
        builds(x, "ghi", "(g,h,i);");
        Check.due("shown of the first 79", x.shown(3), 0);
        Texts.read(x, 0, "(((a,b),c),((d,e),f));");
        Check.due("all are shown", x.shown(0), 80);
    }

    private static void placesOfTriple() {
        builds(Benches.withTriples("abc"), "abc", "((a,b),c);");
        builds(Benches.withTriples("bac"), "abc", "((a,b),c);");
        builds(Benches.withTriples("acb"), "abc", "((a,c),b);");
        builds(Benches.withTriples("bca"), "abc", "((b,c),a);");
        builds(Benches.withTriples("alb"), "abl", "((a,l),b);");
        LineageBench x = new LineageBench();
        for (int kind : Benches.NO_KINDS) {
            Check.noIndex("first " + kind, () -> x.triple(kind, 0, 1));
            Check.noIndex("second " + kind, () -> x.triple(0, kind, 1));
            Check.noIndex("third " + kind, () -> x.triple(0, 1, kind));
        }
        Check.due("none came", x.count(1), 0);
    }

    private static void showsWithAllThree() {
        LineageBench x = Benches.withTriples("abc");
        String[] texts = {"((a,b),c);", "(((a,b),d),c);", "(((a,d),b),c);", "((a,b),(c,d));"};
        for (String text : texts) {
            Texts.read(x, 0, text);
            Check.due("shown by " + text, x.shown(0), 1);
        }
        // one of the three is missing, or no cluster is without c
        String[] others = {"(a,b);", "((a,b),d);", "((a,d),c);", "((b,d),c);", "(a,b,c);", "((a,c),b);", "((b,c),a);",
            "((a,b,c),d);", "a;", "l;"};
        for (String text : others) {
            Texts.read(x, 0, text);
            Check.due("shown by " + text, x.shown(0), 0);
        }
    }

    private static void emptySet() {
        LineageBench x = Benches.withTriples("abc");
        Check.badArgument("the empty set", () -> x.build(0, 0));
        Check.due("nothing came", x.count(0), 0);
        Check.due("the least set", x.build(1, 0), 0);
    }

    private static void oneKind() {
        LineageBench x = Benches.withTriples("abc", "bca");
        for (int k = 0; k < 12; k++) {
            String letter = String.valueOf((char) ('a' + k));
            builds(x, letter, letter + ";");
        }
    }

    private static void thirdOfSet() {
        LineageBench x = Benches.withTriples("abc");
        builds(x, "abc", "((a,b),c);");
        builds(x, "abd", "(a,b,d);");
        builds(x, "acd", "(a,c,d);");
        builds(x, "bcd", "(b,c,d);");
        builds(x, "abcd", "((a,b),c,d);");
        // c is of the whole set, but not of the part
        builds(Benches.withTriples("abc", "bcd", "acd"), "abcd", "(((a,b),c),d);");
        builds(Benches.withTriples("abe", "bce", "abd"), "abcde", "((a,b,c),d,e);");
    }

    private static void hangTogether() {
        builds(Benches.withTriples("abe", "cde"), "abcde", "((a,b),(c,d),e);");
        builds(Benches.withTriples("abe", "cde", "bce"), "abcde", "((a,b,c,d),e);");
        // a chain of all but one, told from its far end
        LineageBench x = new LineageBench();
        for (int k = 9; k >= 0; k--) {
            x.triple(k, k + 1, 11);
        }
        builds(x, "abcdefghijkl", "((a,b,c,d,e,f,g,h,i,j,k),l);");
        // and from its near end, with a and b changed
        LineageBench y = new LineageBench();
        for (int k = 0; k <= 9; k++) {
            y.triple(k + 1, k, 11);
        }
        builds(y, "abcdefghijkl", "((a,b,c,d,e,f,g,h,i,j,k),l);");
        builds(y, "abdefhijkl", "((a,b),(d,e,f),(h,i,j,k),l);");
    }

    private static void justOnePart() {
        clashes(Benches.withTriples("abc", "bca"), "abc", "abc");
        builds(Benches.withTriples("abc", "bca"), "ab", "(a,b);");
        builds(Benches.withTriples("abc", "bca"), "abd", "(a,b,d);");
        clashes(Benches.withTriples("abc", "bcd", "cda"), "abcd", "abcd");
        builds(Benches.withTriples("abc", "bcd"), "abcd", "(((a,b),c),d);");
        LineageBench x = new LineageBench();
        for (int k = 0; k < 11; k++) {
            x.triple(k, k + 1, k < 6 ? 11 : 0);
        }
        clashes(x, "abcdefghijkl", "abcdefghijkl");
    }

    private static void eachPart() {
        builds(Benches.withTriples("klj", "jka", "kla", "cdb", "bca", "cda"), "abcdjkl", "(((c,d),b),((k,l),j),a);");
        builds(new LineageBench(), "al", "(a,l);");
        builds(new LineageBench(), "abcdefghijkl", "(a,b,c,d,e,f,g,h,i,j,k,l);");
        // the deepest: each part has one kind less
        LineageBench x = new LineageBench();
        for (int c = 11; c >= 2; c--) {
            for (int a = 1; a < c; a++) {
                x.triple(0, a, c);
            }
        }
        builds(x, "abcdefghijkl", "(".repeat(11) + "a,b),c),d),e),f),g),h),i),j),k),l);");
    }

    private static void firstClash() {
        // the part of a comes ahead of that of b, though its other kinds are the last ones
        clashes(Benches.withTriples(TWO_CLASHES), "abcdkl", "akl");
        clashes(Benches.withTriples("akl", "kla", "akb", "klb", "bcd", "cdb", "bca", "cda"), "abcdkl", "akl");
        clashes(Benches.withTriples(TWO_CLASHES), "abcdk", "bcd");
        // the whole set cannot be: none of its parts is looked at
        clashes(Benches.withTriples("abc", "bca", "cda"), "abcd", "abcd");
        // within the first part, deeper than the next part's own
        clashes(Benches.withTriples("jkl", "klj", "jka", "kla", "abj", "acj", "adj", "aej", "bcd", "cdb", "bce", "cde",
                "bca", "cda"), "abcdejkl", "bcd");
    }

    // ---- promises

    private static void howMany() {
        LineageBench x = new LineageBench();
        for (int i = 1; i <= 80; i++) {
            Check.due("triple " + i, x.triple(i % 2 == 0 ? 0 : 11, 5, 6), i);
        }
        Check.due("count(1)", x.count(1), 80);
    }

    private static void twoAreOne() {
        LineageBench x = Benches.withTriples("abc");
        LineageBench full = with80(0, 1, 2);
        for (LineageBench y : new LineageBench[] {x, full}) {
            Check.badArgument("a a b", () -> y.triple(0, 0, 1));
            Check.badArgument("a b a", () -> y.triple(0, 1, 0));
            Check.badArgument("b a a", () -> y.triple(1, 0, 0));
            Check.badArgument("l l l", () -> y.triple(11, 11, 11));
        }
        Check.noIndex("no kind, ahead of it", () -> x.triple(12, 12, 0));
        Check.due("none came", x.count(1), 1);
        Check.due("none came", full.count(1), 80);
    }

    private static void thereAre80() {
        LineageBench x = with80(0, 1, 2);
        Check.noMore("a new one", () -> x.triple(0, 1, 3));
        Check.noMore("one that there is", () -> x.triple(0, 1, 2));
        Check.noIndex("no kind, ahead of it", () -> x.triple(0, 1, 12));
        Check.badArgument("two are one, ahead of it", () -> x.triple(0, 1, 1));
        Check.due("80 still", x.count(1), 80);
        builds(x, "abd", "(a,b,d);");
        x.untriple();
        Check.due("one more behind untriple()", x.triple(0, 1, 3), 1);
    }

    private static void noneAnyMore() {
        LineageBench x = new LineageBench();
        Check.due("of none", x.untriple(), 0);
        x.triple(0, 1, 2);
        Check.due("of one", x.untriple(), 1);
        Check.due("of none again", x.untriple(), 0);
        builds(x, "abc", "(a,b,c);");
        LineageBench y = with80(0, 1, 2);
        Check.due("of 80", y.untriple(), 80);
        Check.due("count(1)", y.count(1), 0);
        Texts.read(y, 0, "((a,b),c);");
        Check.due("none is shown", y.shown(0), 0);
        Check.due("a new one is the first", y.triple(1, 2, 0), 1);
        builds(y, "abc", "((b,c),a);");
    }

    private static void comesToShelf() {
        LineageBench x = Benches.withTriples("abc", "def", "ghi");
        Texts.read(x, 7, "(k,l);");
        Check.due("in the place of a tree", x.build(Texts.set("abcdefghi"), 7), 0);
        Check.due("form, by all triples", Texts.written(x, 7), "((a,b),(d,e),(g,h),c,f,i);");
        Check.due("to the first shelf", x.build(1, 0), 0);
        Check.due("shelves", x.count(0), 129);
        for (int to : Benches.NO_SHELVES) {
            Check.noIndex("to " + to, () -> x.build(7, to));
            Check.noIndex("the empty set to " + to, () -> x.build(0, to));
        }
        Check.due("triples still", x.count(1), 3);
    }

    private static void nothingComes() {
        LineageBench x = Benches.withTriples("abc", "bca");
        Texts.read(x, 2, "(k,l);");
        Check.due("to a full shelf", x.build(15, 2), 7);
        Check.due("what was there stays", Texts.written(x, 2), "(k,l);");
        Check.due("to an empty shelf", x.build(7, 3), 7);
        Check.due("nothing came", x.count(0), 4);
    }

    private static void notASet() {
        LineageBench x = Benches.withTriples("abc");
        for (int set : new int[] {0, -1, 4096, 4097, Integer.MIN_VALUE, Integer.MAX_VALUE}) {
            Check.badArgument("build " + set, () -> x.build(set, 0));
            Check.noIndex("no shelf, ahead of it", () -> x.build(set, 8));
        }
        Check.due("nothing came", x.count(0), 0);
        Check.due("build 1", x.build(1, 0), 0);
        Check.due("build 4095", x.build(4095, 0), 0);
        Check.due("form", Texts.written(x, 0), "((a,b),c,d,e,f,g,h,i,j,k,l);");
    }

    private static void howManyShown() {
        LineageBench x = new LineageBench();
        Texts.read(x, 0, "((a,b),(c,d));");
        Check.due("of none", x.shown(0), 0);
        Benches.addTriples(x, "abc", "bac", "abc", "acb", "bca", "cda", "dcb", "abl", "klj");
        Check.due("each as often as it was told", x.shown(0), 5);
        Texts.read(x, 1, "(a,b,c,d,j,k,l);");
        Check.due("by a star", x.shown(1), 0);
        Texts.read(x, 2, "l;");
        Check.due("by one leaf", x.shown(2), 0);
        Texts.read(x, 3, "((j,a,b),(k,l),c);");
        Check.due("by another tree", x.shown(3), 5);
        Texts.read(x, 4, "((a,b),(c,a));");
        Check.badState("not plain", () -> x.shown(4));
        Check.badState("none", () -> x.shown(5));
        for (int shelf : Benches.NO_SHELVES) {
            Check.noIndex("shelf " + shelf, () -> x.shown(shelf));
        }
    }
}
