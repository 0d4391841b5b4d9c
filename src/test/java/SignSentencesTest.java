/** What the terms say of signs, states and distances, and promises 23 to 32, sentence by sentence. */
public final class SignSentencesTest {
    private static final String ALL = "(a,b,c,d,e,f,g,h,i,j,k,l);";
    private static final String COMB = "(".repeat(11) + "a,b),c),d),e),f),g),h),i),j),k),l);";
    private static final int[] NO_SETS = {0, -1, 4096, 4097, Integer.MIN_VALUE, Integer.MAX_VALUE};

    public static void main(String[] args) {
        Sentence.open(args, "Terms 3", "Promise 23", "Promise 24", "Promise 25", "Promise 26", "Promise 27",
                "Promise 28", "Promise 29", "Promise 30", "Promise 31", "Promise 32");
        termsOfSigns();
        termsOfDistances();
        termsOfJoining();
        signPromises();
        statePromises();
        distancePromises();
        Sentence.close();
    }

    private static void termsOfSigns() {
        String terms = "Terms 3";
        Sentence.test(terms, "SIGNS (at most 16):", SignSentencesTest::all16Count);
        Sentence.test(terms, "each a set of KINDS that have it (perhaps none, or all)", SignSentencesTest::noneOrAll);
        Sentence.test(terms, "and for changes() STATES 0 to 3 of each KIND (0 at first;",
                SignSentencesTest::eachStateOfEachKind);
        Sentence.test(terms, "8 rows of STATES, numbered 0 to 7).", SignSentencesTest::eachRowByItself);
    }

    private static void termsOfDistances() {
        String terms = "Terms 3";
        Sentence.test(terms, "DISTANCES: of two unlike KINDS a number 0 to 100000, 0 at first",
                SignSentencesTest::leastAndGreatest);
        Sentence.test(terms, "the same both ways", SignSentencesTest::bothWays);
        Sentence.test(terms, "N KINDS (2 to 12, at first 12) count: 0 to N - 1.", SignSentencesTest::kindsThatCount);
        Sentence.test(terms, "Of four KINDS the three sums d(i,j) + d(k,l), d(i,k) + d(j,l), d(i,l) + d(j,k); FOUR "
                + "POINTS hold, if of all i, j, k, l", SignSentencesTest::threeSums);
        Sentence.test(terms, "(also where some are one KIND, of which the DISTANCE is 0)",
                SignSentencesTest::someAreOneKind);
        Sentence.test(terms, "the two greatest sums are equal.", SignSentencesTest::twoGreatestSums);
        Sentence.test(terms, "A CLOCK holds, if of all three unlike KINDS the two greatest of their DISTANCES are "
                + "equal:", SignSentencesTest::twoGreatestDistances);
        Sentence.test(terms, "then the CLUSTERS are each KIND by itself, and, for each KIND i and each h from 0 on,",
                SignSentencesTest::heightsFrom0);
        Sentence.test(terms, "i and the KINDS j with d(i,j) not above h.", SignSentencesTest::notAboveHeight);
    }

    private static void termsOfJoining() {
        String terms = "Terms 3";
        Sentence.test(terms, "NEAREST JOINING: at first N NODES, LEAVES 0 to N - 1", SignSentencesTest::leavesAtFirst);
        Sentence.test(terms, "as long as there are R above 2 of them:", SignSentencesTest::aboveTwo);
        Sentence.test(terms, "of all two unlike ones, (R - 2) d less the sums of all d of the one and of the other to "
                + "all others, is least", SignSentencesTest::leastScore);
        Sentence.test(terms, "of several those whose lesser least KIND (of the CLUSTERS) is least, then the other's:",
                SignSentencesTest::tiesByLeastKinds);
        Sentence.test(terms, "they become CHILDREN of one new NODE, whose d to another one k is half of d(i,k) + "
                + "d(j,k) - d(i,j),", SignSentencesTest::newDistances);
        Sentence.test(terms, "exactly (perhaps below 0).", SignSentencesTest::exactlyAndBelow0);
        Sentence.test(terms, "The last two are CHILDREN of the ROOT.", SignSentencesTest::lastTwo);
    }

    private static void signPromises() {
        Sentence.test("Promise 23", "A SIGN more: how many there are.", SignSentencesTest::howManySigns);
        Sentence.test("Promise 23", "IllegalArgumentException: the set is not 0 to 4095",
                SignSentencesTest::signOfNoSet);
        Sentence.test("Promise 23", "UnsupportedOperationException: there are 16.", SignSentencesTest::thereAre16);
        Sentence.test("Promise 24", "There are no SIGNS any more: how many there were.",
                SignSentencesTest::noneAnyMore);
        Sentence.test("Promise 25", "Of the KINDS of a set the TREE with these CLUSTERS: the set itself, each KIND,",
                SignSentencesTest::setAndEachKind);
        Sentence.test("Promise 25", "and each SIGN's KINDS in the set (that are not none) comes to a SHELF: 0.",
                SignSentencesTest::signsInSet);
        Sentence.test("Promise 25", "If there is none such: 16 times the least number of a SIGN that is against "
                + "another one, and that one's least number, and 1000,", SignSentencesTest::leastNumbers);
        Sentence.test("Promise 25", "and nothing comes", SignSentencesTest::nothingComes);
        Sentence.test("Promise 25", "(two are against each other, if of the set some have the one alone, some the "
                + "other alone, some both).", SignSentencesTest::againstEachOther);
        Sentence.test("Promise 25", "IllegalArgumentException: the set is not 1 to 4095.",
                SignSentencesTest::perfectOfNoSet);
    }

    private static void statePromises() {
        Sentence.test("Promise 26", "A KIND's STATE in a row.", SignSentencesTest::toldAnew);
        Sentence.test("Promise 26", "IllegalArgumentException: row not 0 to 7,", SignSentencesTest::stateOfNoRow);
        Sentence.test("Promise 26", "state not 0 to 3.", SignSentencesTest::noState);
        Sentence.test("Promise 27", "The least number of NODES whose STATE is another one than that of the NODE whose "
                + "CHILD they are, of all ways to tell the NODES with CHILDREN STATES, LEAVES having those of their "
                + "KINDS.", SignSentencesTest::leastChanges);
        Sentence.test("Promise 27", "IllegalArgumentException: row not 0 to 7.", SignSentencesTest::changesOfNoRow);
        Sentence.test("Promise 27", "(The TREE may be any.)", SignSentencesTest::anyTree);
    }

    private static void distancePromises() {
        Sentence.test("Promise 28", "N.", SignSentencesTest::eachNumberOfKinds);
        Sentence.test("Promise 28", "IllegalArgumentException: not 2 to 12.", SignSentencesTest::noNumberOfKinds);
        Sentence.test("Promise 29", "A DISTANCE.", SignSentencesTest::distanceToldAnew);
        Sentence.test("Promise 29", "IllegalArgumentException: the KINDS are one,", SignSentencesTest::kindsAreOne);
        Sentence.test("Promise 29", "or it is not 0 to 100000.", SignSentencesTest::noDistance);
        Sentence.test("Promise 30", "Whether FOUR POINTS hold.", SignSentencesTest::whetherFourPoints);
        Sentence.test("Promise 31", "If a CLOCK holds, its TREE comes to a SHELF: true",
                SignSentencesTest::clockComes);
        Sentence.test("Promise 31", "else false, and nothing comes.", SignSentencesTest::noClock);
        Sentence.test("Promise 32", "The TREE of NEAREST JOINING comes to a SHELF.", SignSentencesTest::nearestComes);
    }

    // ---- terms of signs

    private static LineageBench with16(int last) {
        LineageBench x = new LineageBench();
        for (int i = 0; i < 15; i++) {
            x.sign(Texts.set("de"));
        }
        x.sign(last);
        return x;
    }

    private static void isPerfect(LineageBench x, String set, String want) {
        Check.due("perfect " + set, x.perfect(Texts.set(set), 6), 0);
        Check.due("form of " + set, Texts.written(x, 6), want);
    }

    private static void all16Count() {
        LineageBench x = with16(Texts.set("ab"));
        Check.due("16", x.count(2), 16);
        isPerfect(x, "abcdef", "((a,b),(d,e),c,f);");
        Check.noMore("the 17th", () -> x.sign(Texts.set("cf")));
        Check.due("16 still", x.count(2), 16);
        isPerfect(x, "abcdef", "((a,b),(d,e),c,f);");
        Check.due("the last one is against the first", with16(Texts.set("ef")).perfect(4095, 0), 1015);
    }

    private static void noneOrAll() {
        LineageBench x = new LineageBench();
        Check.due("none", x.sign(0), 1);
        Check.due("all", x.sign(4095), 2);
        isPerfect(x, "abcdefghijkl", ALL);
        isPerfect(x, "a", "a;");
        x.sign(Texts.set("ab"));
        isPerfect(x, "abc", "((a,b),c);");
    }

    private static void eachStateOfEachKind() {
        for (int k = 0; k < 12; k++) {
            LineageBench x = Benches.withTrees(ALL);
            for (int state = 0; state <= 3; state++) {
                x.state(0, k, state);
                Check.due("kind " + k + " alone has " + state, x.changes(0, 0), state == 0 ? 0 : 1);
                int other = k;
                Check.badArgument("state 4", () -> x.state(0, other, 4));
                Check.badArgument("state -1", () -> x.state(0, other, -1));
                Check.due("it stays", x.changes(0, 0), state == 0 ? 0 : 1);
            }
        }
        // four states are four
        LineageBench x = Benches.withTrees("(a,b,c,d);");
        for (int k = 0; k < 4; k++) {
            x.state(0, k, k);
        }
        Check.due("four states", x.changes(0, 0), 3);
    }

    private static void eachRowByItself() {
        for (int row = 0; row < 8; row++) {
            LineageBench x = Benches.withTrees("(a,b,l);");
            x.state(row, 0, 1);
            x.state(row, 11, 2);
            for (int other = 0; other < 8; other++) {
                Check.due("row " + other + ", of " + row, x.changes(0, other), other == row ? 2 : 0);
            }
        }
        LineageBench x = Benches.withTrees("(a,b);");
        Check.badArgument("row 8", () -> x.state(8, 0, 1));
        Check.badArgument("row -1", () -> x.state(-1, 0, 1));
    }

    // ---- terms of distances

    private static boolean fourPoints(int n, int... distances) {
        return Benches.withDistances(n, distances).fourPoints();
    }

    private static void leastAndGreatest() {
        LineageBench x = new LineageBench();
        x.kinds(3);
        Check.due("0 at first", x.fourPoints(), true);
        x.distance(0, 1, 100000);
        Check.due("100000", x.fourPoints(), false);
        Check.badArgument("100001", () -> x.distance(0, 2, 100001));
        x.distance(0, 2, 100000);
        Check.due("100000, as far", x.fourPoints(), true);
        x.distance(1, 2, 0);
        Check.due("0, two at one place", x.fourPoints(), true);
        Check.due("clock", x.clock(0), true);
        Check.due("form", Texts.written(x, 0), "((b,c),a);");
        Check.badArgument("-1", () -> x.distance(1, 2, -1));
        Check.badArgument("of one kind", () -> x.distance(1, 1, 0));
        // sums of the greatest
        Check.due("the greatest", fourPoints(4, 100000, 100000, 100000, 100000, 100000, 100000), true);
        Check.due("one less", fourPoints(4, 99999, 100000, 100000, 100000, 100000, 99998), true);
        Check.due("of one sum", fourPoints(4, 100000, 99999, 100000, 100000, 100000, 100000), true);
        Check.due("of two sums", fourPoints(4, 100000, 99999, 100000, 99999, 100000, 100000), false);
    }

    private static void bothWays() {
        for (int b = 1; b < 12; b++) {
            LineageBench x = new LineageBench();
            x.distance(b, 0, 7);
            Check.due("told from " + b, x.clock(0), false);
            x.distance(0, b, 0);
            Check.due("told anew from 0", x.clock(0), true);
            x.distance(0, b, 7);
            Check.due("told from 0", x.fourPoints(), false);
            x.distance(b, 0, 0);
            Check.due("told anew from " + b, x.fourPoints(), true);
        }
    }

    private static void kindsThatCount() {
        for (int n = 2; n <= 12; n++) {
            LineageBench x = new LineageBench();
            x.distance(n - 1, n == 12 ? 0 : 11, 9);
            x.kinds(n);
            if (n < 12) {
                Check.due("the last that counts, and one that does not", x.fourPoints(), true);
                Check.due("clock", x.clock(0), true);
            } else {
                Check.due("the first and the last one", x.fourPoints(), false);
                Check.due("clock", x.clock(0), false);
            }
            x.distance(n - 2, n - 1, 9);
            x.distance(n - 1, n == 12 ? 0 : 11, 0);
            Check.due("the last two of " + n + " count", x.fourPoints(), n == 2);
            x.nearest(1);
            Check.due("kinds of nearest", x.look(1, 2), (1 << n) - 1);
            x.kinds(2);
            x.nearest(1);
            Check.due("kinds of nearest", x.look(1, 2), 3);
        }
    }

    private static void threeSums() {
        // of each of the three sums one that stands alone, the least: a tree's
        Check.due("ab|cd", fourPoints(4, 2, 4, 4, 4, 4, 2), true);
        Check.due("ac|bd", fourPoints(4, 4, 2, 4, 4, 2, 4), true);
        Check.due("ad|bc", fourPoints(4, 4, 4, 2, 2, 4, 4), true);
        // one that stands alone, the greatest: no tree's
        Check.due("ab and cd far", fourPoints(4, 4, 3, 3, 3, 3, 4), false);
        Check.due("ac and bd far", fourPoints(4, 3, 4, 3, 3, 4, 3), false);
        Check.due("ad and bc far", fourPoints(4, 3, 3, 4, 4, 3, 3), false);
        // four of five, all others hold
        Check.due("the last four of five", fourPoints(5, 9, 9, 4, 9, 3, 3, 9, 3, 3, 4), false);
        // four of all twelve: the last ones
        LineageBench x = new LineageBench();
        for (int b = 1; b < 12; b++) {
            for (int a = 0; a < b; a++) {
                x.distance(a, b, 10);
            }
        }
        Check.due("all as far", x.fourPoints(), true);
        x.distance(8, 9, 11);
        x.distance(10, 11, 11);
        Check.due("the last four", x.fourPoints(), false);
        x.kinds(11);
        Check.due("one of them still", x.fourPoints(), false);
        x.kinds(9);
        Check.due("without them", x.fourPoints(), true);
    }

    private static void someAreOneKind() {
        Check.due("two kinds, any distance", fourPoints(2, 100000), true);
        Check.due("two kinds, 0", fourPoints(2, 0), true);
        Check.due("three: as far as the way round", fourPoints(3, 2, 3, 5), true);
        Check.due("three: farther", fourPoints(3, 2, 3, 6), false);
        Check.due("three: farther, first", fourPoints(3, 6, 3, 2), false);
        Check.due("three: farther, second", fourPoints(3, 2, 6, 3), false);
        Check.due("three: 0 and unlike ones", fourPoints(3, 0, 3, 4), false);
        // of four unlike ones it would hold
        Check.due("four, three of which do not", fourPoints(4, 9, 1, 1, 1, 1, 1), false);
        Check.due("the greatest way", fourPoints(3, 100000, 50000, 50000), true);
        Check.due("one too far", fourPoints(3, 100000, 50000, 49999), false);
    }

    private static void twoGreatestSums() {
        Check.due("all equal", fourPoints(4, 2, 2, 2, 2, 2, 2), true);
        Check.due("the least by one", fourPoints(4, 3, 4, 4, 4, 4, 4), true);
        Check.due("the greatest by one", fourPoints(4, 5, 4, 4, 4, 4, 4), false);
        Check.due("the two least are equal", fourPoints(4, 5, 5, 5, 5, 6, 5), false);
        Check.due("all unlike", fourPoints(4, 4, 6, 5, 5, 5, 5), false);
    }

    private static boolean clock(int... distances) {
        int n = distances.length == 1 ? 2 : distances.length == 3 ? 3 : 4;
        return Benches.withDistances(n, distances).clock(0);
    }

    private static void twoGreatestDistances() {
        Check.due("two kinds have no three", clock(100000), true);
        Check.due("all equal", clock(5, 5, 5), true);
        Check.due("the first least", clock(4, 5, 5), true);
        Check.due("the second least", clock(5, 4, 5), true);
        Check.due("the third least", clock(5, 5, 4), true);
        Check.due("the first greatest", clock(6, 5, 5), false);
        Check.due("the second greatest", clock(5, 6, 5), false);
        Check.due("the third greatest", clock(5, 5, 6), false);
        Check.due("all unlike", clock(4, 5, 6), false);
        Check.due("the greatest, all equal", clock(100000, 100000, 100000), true);
        Check.due("a three with 0", clock(0, 0, 1), false);
        Check.due("four", clock(2, 6, 6, 6, 6, 4), true);
        Check.due("four, the last three not", clock(2, 6, 6, 6, 6, 7), false);
        Check.due("four, the first three not", clock(2, 6, 5, 9, 9, 9), false);
    }

    private static void tells(String want, int n, int... distances) {
        LineageBench x = Benches.withDistances(n, distances);
        Check.due("clock of " + want, x.clock(2), true);
        Check.due("form", Texts.written(x, 2), want);
    }

    private static void heightsFrom0() {
        tells("(a,b);", 2, 0);
        tells("(a,b);", 2, 1);
        tells("(a,b);", 2, 100000);
        tells("((a,b),c);", 3, 0, 1, 1);
        tells("((b,c),a);", 3, 1, 1, 0);
        tells("(a,b,c);", 3, 0, 0, 0);
        tells("((a,b,c),d);", 4, 0, 0, 0, 9, 9, 9);
        tells(ALL, 12, new int[66]);
    }

    private static void notAboveHeight() {
        tells("((a,b),c);", 3, 5, 6, 6);
        tells("(a,b,c);", 3, 6, 6, 6);
        tells("((a,b),(c,d));", 4, 5, 6, 6, 6, 6, 5);
        tells("((a,c),(b,d));", 4, 6, 1, 6, 6, 2, 6);
        tells("(((a,b),c),d);", 4, 99998, 99999, 99999, 100000, 100000, 100000);
        int[] comb = new int[66];
        int at = 0;
        for (int b = 1; b < 12; b++) {
            for (int a = 0; a < b; a++) {
                comb[at] = b - 1;
                at++;
            }
        }
        tells(COMB, 12, comb);
    }

    // ---- terms of joining

    private static void joins(String want, int n, int... distances) {
        LineageBench x = Benches.withDistances(n, distances);
        x.nearest(2);
        Check.due("form of nearest", Texts.written(x, 2), want);
    }

    private static void leavesAtFirst() {
        for (int n = 2; n <= 12; n++) {
            LineageBench x = new LineageBench();
            x.kinds(n);
            x.nearest(0);
            Check.due("kinds", x.look(0, 2), (1 << n) - 1);
            Check.due("leaves", x.look(0, 0), n);
            Check.due("nodes", x.look(0, 1), 2 * n - 1);
            Check.due("binary", x.look(0, 4), 1);
        }
    }

    private static void aboveTwo() {
        joins("(a,b);", 2, 0);
        joins("(a,b);", 2, 100000);
        // of three all two are as near: those of the least kinds
        joins("((a,b),c);", 3, 0, 0, 0);
        joins("((a,b),c);", 3, 100000, 0, 0);
        joins("((a,b),c);", 3, 9, 1, 5);
    }

    private static void leastScore() {
        // the nearest two, c and d, are not joined first: the sums tell
        joins("(((a,b),c),d);", 4, 3, 9, 10, 10, 11, 7);
        joins("(((a,d),b),c);", 4, 1, 0, 0, 0, 4, 3);
        joins("(((a,b),c),d);", 4, 7, 9, 0, 7, 4, 0);
        joins("(((a,c),b),d);", 4, 4, 1, 1, 1, 0, 4);
        // greatest numbers
        joins("(((a,d),b),c);", 4, 100000, 0, 0, 0, 100000, 100000);
    }

    private static void tiesByLeastKinds() {
        joins(COMB, 12, new int[66]);
        // ab and cd as near
        joins("(((a,b),c),d);", 4, 4, 5, 8, 3, 8, 5);
        // ad and bc as near: the lesser one's least kind tells, not the other's
        joins("(((a,d),b),c);", 4, 2, 1, 1, 0, 2, 2);
        joins("(((a,d),b),c);", 4, 8, 7, 7, 6, 8, 9);
        // then the other's: of three, ab and ac and bc
        joins("(((a,d),b),c);", 4, 2, 3, 0, 1, 5, 4);
        // the least kind of a cluster, not when it came
        joins("(((a,c),b),d);", 4, 4, 2, 4, 2, 0, 3);
        joins("((((d,e),a),b),c);", 5, 2, 1, 0, 2, 2, 2, 2, 2, 1, 0);
        joins("(((a,d),(b,e)),c);", 5, 1, 1, 3, 1, 2, 3, 2, 0, 1, 3);
    }

    private static void newDistances() {
        joins("((((a,b),d),c),e);", 5, 5, 5, 2, 3, 1, 0, 4, 2, 1, 0);
        joins("(((a,d),(b,c)),e);", 5, 5, 8, 5, 4, 7, 8, 0, 1, 1, 0);
        joins("((((a,b),c),d),e);", 5, 5, 9, 10, 9, 10, 8, 8, 9, 7, 3);
    }

    private static void exactlyAndBelow0() {
        // halves that are cut off, down or towards 0, would tell another tree
        joins("((((a,c),e),b),d);", 5, 1, 0, 0, 1, 0, 0, 2, 1, 0, 1);
        joins("((((a,e),d),b),c);", 5, 0, 1, 0, 2, 1, 2, 0, 1, 2, 2);
        joins("((((c,d),a),b),e);", 5, 1, 1, 1, 3, 3, 0, 2, 1, 2, 3);
        joins("((((d,e),a),b),c);", 5, 3, 5, 3, 5, 6, 7, 9, 5, 9, 2);
        joins("(((a,c),b),(d,e));", 5, 7, 2, 6, 1, 8, 6, 7, 8, 1, 0);
        // 0 for those below it would tell another tree
        joins("((((a,b),d),c),e);", 5, 5, 5, 2, 3, 1, 0, 4, 2, 1, 0);
        joins("((((a,d),b),c),e);", 5, 1, 4, 1, 3, 0, 3, 5, 0, 3, 4);
        joins("(((a,d),(b,c)),e);", 5, 5, 8, 5, 4, 7, 8, 0, 1, 1, 0);
    }

    private static void lastTwo() {
        LineageBench x = Benches.withDistances(4, 2, 6, 6, 6, 6, 2);
        x.nearest(0);
        Check.due("nodes", x.look(0, 1), 7);
        Check.due("the root's two are abc and d", x.has(0, Texts.set("abc")) && x.has(0, Texts.set("d")), true);
        Check.due("form", Texts.written(x, 0), "(((a,b),c),d);");
        joins("(a,b);", 2, 5);
        joins("(((a,c),b),(d,e));", 5, 7, 2, 6, 1, 8, 6, 7, 8, 1, 0);
    }

    // ---- signs

    private static void howManySigns() {
        LineageBench x = new LineageBench();
        for (int i = 1; i <= 16; i++) {
            Check.due("sign " + i, x.sign(7), i);
        }
        Check.due("count(2)", x.count(2), 16);
    }

    private static void signOfNoSet() {
        LineageBench x = new LineageBench();
        LineageBench full = with16(1);
        for (int set : new int[] {-1, 4096, 4097, Integer.MIN_VALUE, Integer.MAX_VALUE}) {
            Check.badArgument("sign " + set, () -> x.sign(set));
            Check.badArgument("sign " + set + ", ahead of no more", () -> full.sign(set));
        }
        Check.due("none came", x.count(2), 0);
        Check.due("sign 0", x.sign(0), 1);
        Check.due("sign 4095", x.sign(4095), 2);
    }

    private static void thereAre16() {
        LineageBench x = with16(Texts.set("ab"));
        Check.noMore("a new one", () -> x.sign(Texts.set("bc")));
        Check.noMore("one that there is", () -> x.sign(Texts.set("ab")));
        Check.noMore("the empty one", () -> x.sign(0));
        Check.due("16 still", x.count(2), 16);
        isPerfect(x, "abc", "((a,b),c);");
        x.unsign();
        Check.due("one more behind unsign()", x.sign(Texts.set("bc")), 1);
    }

    private static void noneAnyMore() {
        LineageBench x = new LineageBench();
        Check.due("of none", x.unsign(), 0);
        x.sign(3);
        Check.due("of one", x.unsign(), 1);
        Check.due("of none again", x.unsign(), 0);
        isPerfect(x, "abc", "(a,b,c);");
        LineageBench y = with16(3);
        Check.due("of 16", y.unsign(), 16);
        Check.due("count(2)", y.count(2), 0);
        Check.due("a new one is the first", y.sign(Texts.set("bc")), 1);
        isPerfect(y, "abcde", "((b,c),a,d,e);");
    }

    private static void setAndEachKind() {
        LineageBench x = new LineageBench();
        isPerfect(x, "a", "a;");
        isPerfect(x, "l", "l;");
        isPerfect(x, "al", "(a,l);");
        isPerfect(x, "abcdefghijkl", ALL);
        for (int to : Benches.NO_SHELVES) {
            Check.noIndex("to " + to, () -> x.perfect(1, to));
        }
    }

    private static void signsInSet() {
        LineageBench x = Benches.withSigns("abc", "ab", "de", "", "abcdefghijkl", "a", "abc");
        isPerfect(x, "abcdef", "(((a,b),c),(d,e),f);");
        isPerfect(x, "abc", "((a,b),c);");
        isPerfect(x, "acdf", "((a,c),d,f);");
        isPerfect(x, "fgh", "(f,g,h);");
        isPerfect(x, "e", "e;");
        Texts.read(x, 7, "(k,l);");
        Check.due("in the place of a tree", x.perfect(Texts.set("de"), 7), 0);
        Check.due("form", Texts.written(x, 7), "(d,e);");
        // the deepest, by as many signs as it has branchings
        LineageBench y = new LineageBench();
        for (int k = 1; k < 12; k++) {
            y.sign((2 << k) - 1);
        }
        isPerfect(y, "abcdefghijkl", COMB);
    }

    private static void leastNumbers() {
        Check.due("0 and 1", Benches.withSigns("ab", "bc").perfect(7, 0), 1001);
        Check.due("the least second one", Benches.withSigns("ab", "l", "bc", "ac").perfect(7, 0), 1002);
        Check.due("the least first one", Benches.withSigns("l", "ab", "cd", "bc").perfect(15, 0), 1000 + 16 + 3);
        Check.due("the least first one, with a later second one", Benches.withSigns("ab", "cd", "ce", "b", "ac")
                .perfect(31, 0), 1004);
        LineageBench x = new LineageBench();
        for (int i = 0; i < 14; i++) {
            x.sign(0);
        }
        x.sign(Texts.set("ab"));
        x.sign(Texts.set("bc"));
        Check.due("the last two", x.perfect(7, 0), 1000 + 16 * 14 + 15);
    }

    private static void nothingComes() {
        LineageBench x = Benches.withSigns("ab", "bc");
        Texts.read(x, 0, "(k,l);");
        Check.due("to a full shelf", x.perfect(7, 0), 1001);
        Check.due("what was there stays", Texts.written(x, 0), "(k,l);");
        Check.due("to an empty shelf", x.perfect(7, 1), 1001);
        Check.due("nothing came", x.count(0), 1);
    }

    private static void againstEachOther() {
        LineageBench x = Benches.withSigns("abd", "bcd");
        Check.due("each alone and both", x.perfect(Texts.set("abc"), 0), 1001);
        Check.due("all", x.perfect(4095, 0), 1001);
        isPerfect(x, "bcd", "((b,d),c);");
        isPerfect(x, "abd", "((b,d),a);");
        isPerfect(x, "ac", "(a,c);");
        isPerfect(x, "ace", "(a,c,e);");
        isPerfect(x, "bce", "((b,c),e);");
        isPerfect(x, "abe", "((a,b),e);");
        isPerfect(Benches.withSigns("ab", "ab"), "abc", "((a,b),c);");
        isPerfect(Benches.withSigns("ab", "cd"), "abcd", "((a,b),(c,d));");
        isPerfect(Benches.withSigns("ab", "abc"), "abcd", "(((a,b),c),d);");
        isPerfect(Benches.withSigns("abc", "ab"), "abcd", "(((a,b),c),d);");
        isPerfect(Benches.withSigns("", "ab", "abcd"), "abcd", "((a,b),c,d);");
    }

    private static void perfectOfNoSet() {
        LineageBench x = Benches.withSigns("ab", "bc");
        for (int set : NO_SETS) {
            Check.badArgument("perfect " + set, () -> x.perfect(set, 0));
            Check.noIndex("no shelf, ahead of it", () -> x.perfect(set, 8));
        }
        Check.due("nothing came", x.count(0), 0);
        Check.due("perfect 1", x.perfect(1, 0), 0);
        Check.due("perfect 4095", x.perfect(4095, 0), 1001);
        x.unsign();
        Check.due("perfect 4095", x.perfect(4095, 0), 0);
    }

    // ---- states

    private static void toldAnew() {
        LineageBench x = Benches.withTrees("(a,l);");
        x.state(0, 11, 3);
        Check.due("told", x.changes(0, 0), 1);
        x.state(0, 0, 3);
        Check.due("told the other", x.changes(0, 0), 0);
        x.state(0, 11, 0);
        Check.due("told anew", x.changes(0, 0), 1);
        for (int kind : Benches.NO_KINDS) {
            Check.noIndex("kind " + kind, () -> x.state(0, kind, 0));
            Check.noIndex("kind " + kind + ", ahead of the row", () -> x.state(8, kind, 0));
            Check.noIndex("kind " + kind + ", ahead of the state", () -> x.state(0, kind, 4));
        }
    }

    private static void stateOfNoRow() {
        LineageBench x = Benches.withTrees(ALL);
        for (int row : new int[] {-1, 8, 96, Integer.MIN_VALUE, Integer.MAX_VALUE}) {
            for (int k = 0; k < 12; k += 11) {
                int kind = k;
                Check.badArgument("row " + row, () -> x.state(row, kind, 1));
            }
        }
        for (int row = 0; row < 8; row++) {
            Check.due("nothing was told to row " + row, x.changes(0, row), 0);
        }
        x.state(0, 0, 1);
        x.state(7, 11, 1);
        Check.due("row 0", x.changes(0, 0), 1);
        Check.due("row 7", x.changes(0, 7), 1);
    }

    private static void noState() {
        LineageBench x = Benches.withTrees("(a,b);");
        x.state(0, 0, 2);
        for (int state : new int[] {-1, 4, 5, 7, Integer.MIN_VALUE, Integer.MAX_VALUE}) {
            Check.badArgument("state " + state, () -> x.state(0, 1, state));
            Check.badArgument("state " + state, () -> x.state(0, 0, state));
        }
        Check.due("nothing was told", x.changes(0, 0), 1);
        x.state(0, 1, 2);
        Check.due("it has the one of before", x.changes(0, 0), 0);
        x.state(0, 0, 0);
        x.state(0, 1, 3);
        Check.due("0 and 3 are states", x.changes(0, 0), 1);
    }

    private static void leastChanges() {
        Check.due("one leaf", Benches.changesOf("a;", "3"), 0);
        Check.due("two leaves, one state", Benches.changesOf("(a,b);", "22"), 0);
        Check.due("two leaves, two states", Benches.changesOf("(a,b);", "12"), 1);
        Check.due("all unlike, a star", Benches.changesOf("(a,b,c,d);", "0123"), 3);
        Check.due("three of each", Benches.changesOf(ALL, "000111222333"), 9);
        Check.due("the state of most", Benches.changesOf("(a,b,c,d,e);", "01112"), 2);
        Check.due("by sides", Benches.changesOf("((a,b),(c,d));", "1122"), 1);
        Check.due("across", Benches.changesOf("((a,b),(c,d));", "1212"), 2);
        // a state that is not the one of most of its children
        Check.due("from above", Benches.changesOf("((a,b,c),d,e,f);", "112000"), 2);
        Check.due("a comb", Benches.changesOf(COMB, "010101010101"), 6);
        Check.due("most changes of 24 leaves", Benches.changesOf("(" + "a,b,c,d,".repeat(5) + "a,b,c,d);", "0123"), 18);
    }

    private static void changesOfNoRow() {
        LineageBench x = Benches.withTrees("(a,b);");
        for (int row : new int[] {-1, 8, 9, Integer.MIN_VALUE, Integer.MAX_VALUE}) {
            Check.badArgument("row " + row, () -> x.changes(0, row));
            Check.badState("none, ahead of it", () -> x.changes(1, row));
            Check.noIndex("no shelf, ahead of it", () -> x.changes(8, row));
        }
        Check.due("row 0", x.changes(0, 0), 0);
        Check.due("row 7", x.changes(0, 7), 0);
        for (int shelf : Benches.NO_SHELVES) {
            Check.noIndex("shelf " + shelf, () -> x.changes(shelf, 0));
        }
    }

    private static void anyTree() {
        Check.due("not plain", Benches.changesOf("((a,a),(a,b));", "01"), 1);
        Check.due("not plain, all one kind", Benches.changesOf("(a,(a,(a,a)));", "2"), 0);
        Check.due("not binary", Benches.changesOf("((a,b,c),(a,b,c),d);", "0120"), 4);
        Check.due("one leaf", Benches.changesOf("l;", "000000000003"), 0);
        Check.due("the deepest", Benches.changesOf("(a,(b,".repeat(11) + "(a,b)" + "))".repeat(11) + ";", "01"), 12);
        LineageBench x = new LineageBench();
        Check.badState("none", () -> x.changes(0, 0));
    }

    // ---- distances

    private static void eachNumberOfKinds() {
        LineageBench x = new LineageBench();
        x.distance(0, 1, 3);
        for (int n = 12; n >= 2; n--) {
            x.kinds(n);
            Check.due("count(3)", x.count(3), n);
            Check.due("clock", x.clock(0), n == 2);
        }
        x.kinds(12);
        Check.due("count(3)", x.count(3), 12);
        Check.due("the distance stays", x.clock(0), false);
    }

    private static void noNumberOfKinds() {
        LineageBench x = new LineageBench();
        for (int n : new int[] {1, 13, 0, -1, -12, Integer.MIN_VALUE, Integer.MAX_VALUE}) {
            Check.badArgument("kinds " + n, () -> x.kinds(n));
        }
        Check.due("12 still", x.count(3), 12);
        x.kinds(2);
        for (int n : new int[] {1, 13}) {
            Check.badArgument("kinds " + n, () -> x.kinds(n));
        }
        Check.due("2 still", x.count(3), 2);
    }

    private static void distanceToldAnew() {
        LineageBench x = Benches.withDistances(3, 5, 5, 5);
        x.distance(0, 1, 2);
        x.clock(0);
        Check.due("form", Texts.written(x, 0), "((a,b),c);");
        x.distance(1, 0, 5);
        x.distance(2, 1, 2);
        x.clock(0);
        Check.due("form", Texts.written(x, 0), "((b,c),a);");
        x.distance(10, 11, 4);
        Check.due("kinds that do not count have distances too", x.clock(0), true);
        x.kinds(12);
        x.distance(0, 1, 0);
        x.distance(0, 2, 0);
        x.distance(1, 2, 0);
        Check.due("the last two have theirs", x.clock(0), false);
        for (int kind : Benches.NO_KINDS) {
            Check.noIndex("first " + kind, () -> x.distance(kind, 0, 1));
            Check.noIndex("second " + kind, () -> x.distance(0, kind, 1));
            Check.noIndex("both " + kind, () -> x.distance(kind, kind, 1));
            Check.noIndex("ahead of no distance", () -> x.distance(0, kind, -1));
        }
    }

    private static void kindsAreOne() {
        LineageBench x = new LineageBench();
        for (int k = 0; k < 12; k++) {
            int kind = k;
            Check.badArgument("of " + k + " and itself, 0", () -> x.distance(kind, kind, 0));
            Check.badArgument("of " + k + " and itself, 1", () -> x.distance(kind, kind, 1));
        }
        Check.due("all are 0 still", x.fourPoints(), true);
    }

    private static void noDistance() {
        LineageBench x = Benches.withDistances(3, 5, 5, 5);
        for (int d : new int[] {-1, 100001, Integer.MIN_VALUE, Integer.MAX_VALUE}) {
            Check.badArgument("distance " + d, () -> x.distance(0, 1, d));
        }
        Check.due("it stays", x.clock(0), true);
        Check.due("form", Texts.written(x, 0), "(a,b,c);");
        x.distance(0, 1, 0);
        x.clock(0);
        Check.due("0", Texts.written(x, 0), "((a,b),c);");
        x.distance(0, 2, 100000);
        x.distance(1, 2, 100000);
        Check.due("100000", x.clock(0), true);
    }

    private static void whetherFourPoints() {
        Check.due("two kinds", fourPoints(2, 1), true);
        Check.due("a tree's", fourPoints(4, 3, 9, 10, 10, 11, 7), true);
        Check.due("not a tree's", fourPoints(4, 3, 9, 10, 10, 11, 24), false);
        Check.due("a tree's, no clock's", fourPoints(3, 3, 4, 5), true);
        Check.due("a clock's", fourPoints(4, 2, 6, 6, 6, 6, 4), true);
        LineageBench x = Benches.withDistances(3, 9, 1, 1);
        Check.due("one too far", x.fourPoints(), false);
        x.kinds(2);
        Check.due("the third does not count", x.fourPoints(), true);
    }

    private static void clockComes() {
        LineageBench x = Benches.withDistances(3, 2, 6, 6);
        Texts.read(x, 7, "(k,l);");
        Check.due("in the place of a tree", x.clock(7), true);
        Check.due("form", Texts.written(x, 7), "((a,b),c);");
        Check.due("to the first shelf", x.clock(0), true);
        Check.due("shelves", x.count(0), 129);
        for (int to : Benches.NO_SHELVES) {
            Check.noIndex("to " + to, () -> x.clock(to));
        }
        x.distance(0, 1, 7);
        for (int to : Benches.NO_SHELVES) {
            Check.noIndex("to " + to + ", where none holds", () -> x.clock(to));
        }
    }

    private static void noClock() {
        LineageBench x = Benches.withDistances(3, 2, 6, 7);
        Texts.read(x, 0, "(k,l);");
        Check.due("to a full shelf", x.clock(0), false);
        Check.due("what was there stays", Texts.written(x, 0), "(k,l);");
        Check.due("to an empty shelf", x.clock(1), false);
        Check.due("nothing came", x.count(0), 1);
    }

    private static void nearestComes() {
        LineageBench x = Benches.withDistances(3, 2, 6, 7);
        Texts.read(x, 7, "(k,l);");
        x.nearest(7);
        Check.due("in the place of a tree", Texts.written(x, 7), "((a,b),c);");
        x.nearest(0);
        Check.due("shelves", x.count(0), 129);
        for (int to : Benches.NO_SHELVES) {
            Check.noIndex("to " + to, () -> x.nearest(to));
        }
    }
}
