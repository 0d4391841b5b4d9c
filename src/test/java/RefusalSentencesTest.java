import java.util.ArrayList;
import java.util.List;
import java.util.NoSuchElementException;

/** The end of the terms, sentence by sentence: which exception comes first, what is left, what is replaced. */
public final class RefusalSentencesTest {
    /** Shelves of a furnished bench. */
    private static final int PLAIN_ONE = 0;
    private static final int NOT_PLAIN = 1;
    private static final int NOT_BINARY = 2;
    private static final int OTHER_KINDS = 3;
    private static final int NO_TREE = 4;
    private static final int STAR = 5;
    private static final int NO_TREE_TOO = 6;

    private static final Class<?> NO_INDEX = IndexOutOfBoundsException.class;
    private static final Class<?> BAD_STATE = IllegalStateException.class;
    private static final Class<?> BAD_ARGUMENT = IllegalArgumentException.class;
    private static final Class<?> NO_SUCH = NoSuchElementException.class;
    private static final Class<?> NO_MORE = UnsupportedOperationException.class;

    private interface OnBench {
        void call(LineageBench x);
    }

    private record Refusal(String name, Class<?> want, OnBench call) {
    }

    public static void main(String[] args) {
        String section = "Terms, end";
        Sentence.open(args, section);
        Sentence.test(section, "Of several exceptions the one told first is thrown",
                () -> areThrown(withSeveralReasons()));
        Sentence.test(section, "a call that throws changes nothing but the TAPE,",
                RefusalSentencesTest::nothingChanges);
        Sentence.test(section, "where it is used up.", RefusalSentencesTest::tapeIsUsedUp);
        Sentence.test(section, "IndexOutOfBoundsException: there is no such SHELF, KIND.", () -> {
            areThrown(ofNoShelf());
            areThrown(ofNoKind());
            lastOnesAreThere();
        });
        Sentence.test(section, "IllegalStateException: a SHELF that is asked for has no TREE,",
                () -> areThrown(ofNoTree()));
        Sentence.test(section, "or one that is not as it must be (PLAIN, and what is told else).",
                RefusalSentencesTest::notAsItMustBe);
        Sentence.test(section, "Where a TREE comes to a SHELF it is in the place of what was there.",
                RefusalSentencesTest::inPlaceOfWhatWasThere);
        Sentence.test(section, "in the place of what was there.", RefusalSentencesTest::nothingIsLeftOfLargerOnes);
        Sentence.close();
    }

    /** Something of all that can be told; as many triples and signs as there can be. */
    private static LineageBench furnished() {
        LineageBench x = Benches.withTrees("((a,b),(c,d));", "(a,a);", "(a,b,c);", "((a,e),(c,d));", "",
                "(a,b,c,d,e,f,g,h,i,j,k,l);", "", "l;");
        Benches.addTriples(x, "abc", "cdb");
        for (int i = 2; i < 80; i++) {
            x.triple(5, 6, 7);
        }
        x.sign(Texts.set("ab"));
        for (int i = 1; i < 16; i++) {
            x.sign(Texts.set("fg"));
        }
        x.state(0, 1, 1);
        x.state(7, 11, 3);
        x.kinds(5);
        int[] distances = {5, 9, 10, 9, 10, 8, 8, 9, 7, 3};
        int at = 0;
        for (int b = 1; b < 5; b++) {
            for (int a = 0; a < b; a++) {
                x.distance(a, b, distances[at]);
                at++;
            }
        }
        Texts.lay(x, "(".repeat(24));
        Check.badArgument("a fault", () -> x.read(NO_TREE));
        x.write(PLAIN_ONE);
        Texts.lay(x, "(k,(j,i));");
        return x;
    }

    /** All that can be asked of a furnished bench, the tape too; this uses it up. */
    private static String observed(LineageBench x) {
        StringBuilder seen = new StringBuilder();
        for (int what = 0; what < 6; what++) {
            seen.append(x.count(what)).append(' ');
        }
        seen.append(x.fault(0)).append(' ').append(x.fault(1)).append(' ');
        for (int i = 0; i < x.count(5); i++) {
            seen.append((char) x.written(i));
        }
        int shelves = x.count(0);
        for (int row = 0; row < 8 && (shelves >> STAR & 1) == 1; row++) {
            seen.append(' ').append(x.changes(STAR, row));
        }
        for (int s = 0; s < 8; s++) {
            seen.append(' ').append((shelves >> s & 1) == 1 ? Texts.written(x, s) : "none");
        }
        seen.append(' ').append(tapeOf(x)).append(' ').append(x.fourPoints()).append(x.clock(2));
        x.nearest(2);
        seen.append(' ').append(Texts.written(x, 2));
        seen.append(' ').append(x.build(Texts.set("abcdfgh"), 2)).append(Texts.written(x, 2));
        seen.append(' ').append(x.perfect(Texts.set("abcdfgh"), 2)).append(Texts.written(x, 2));
        x.kinds(12);
        x.nearest(2);
        return seen.append(' ').append(Texts.written(x, 2)).toString();
    }

    private static String tapeOf(LineageBench x) {
        try {
            x.read(2);
            return Texts.written(x, 2);
        } catch (IllegalArgumentException e) {
            return "fault " + x.fault(0) + " at " + x.fault(1);
        }
    }

    private static void areThrown(List<Refusal> refusals) {
        LineageBench x = furnished();
        int made = 0;
        for (Refusal refusal : refusals) {
            // an object has at most 512 calls
            if (made == 200) {
                x = furnished();
                made = 0;
            }
            made++;
            LineageBench y = x;
            Check.thrown(refusal.name, refusal.want, () -> refusal.call.call(y));
        }
    }

    private static void nothingChanges() {
        List<Refusal> all = withSeveralReasons();
        all.addAll(ofNoShelf());
        all.addAll(ofNoKind());
        all.addAll(ofNoTree());
        all.addAll(ofNotPlain());
        all.addAll(ofNotWhatIsToldElse());
        all.addAll(ofBadArguments());
        String due = observed(furnished());
        for (Refusal refusal : all) {
            LineageBench x = furnished();
            Check.thrown(refusal.name, refusal.want, () -> refusal.call.call(x));
            Check.due("all behind " + refusal.name, observed(x), due);
        }
    }

    private static void tapeIsUsedUp() {
        String with = observed(furnished());
        LineageBench none = furnished();
        none.end(0);
        String without = observed(none);
        Check.due("the tape is seen", with.equals(without), false);
        for (int shelf : Benches.NO_SHELVES) {
            LineageBench x = furnished();
            Check.noIndex("read(" + shelf + ")", () -> x.read(shelf));
            Check.due("nothing else behind read(" + shelf + ")", observed(x), without);
        }
        // a fault is told by fault(), and changes nothing else
        String fault = " 2 23 ";
        Check.due("the fault is seen", without.contains(fault), true);
        for (int shelf : new int[] {PLAIN_ONE, NO_TREE}) {
            LineageBench x = furnished();
            x.end(4);
            Check.badArgument("read(" + shelf + ")", () -> x.read(shelf));
            Check.due("nothing else behind a fault", observed(x), without.replace(fault, " 1 4 "));
        }
        LineageBench y = furnished();
        Check.noIndex("write(8)", () -> y.write(8));
        Check.due("other calls leave the tape", y.count(4), 10);
    }

    // ---- calls that are refused

    private static void add(List<Refusal> list, String name, Class<?> want, OnBench call) {
        list.add(new Refusal(name, want, call));
    }

    private static List<Refusal> withSeveralReasons() {
        List<Refusal> list = new ArrayList<>();
        add(list, "look(8, 6)", NO_INDEX, x -> x.look(8, 6));
        add(list, "look(none, 6)", BAD_STATE, x -> x.look(NO_TREE, 6));
        add(list, "nearer(none, 12, 0, 1)", NO_INDEX, x -> x.nearer(NO_TREE, 12, 0, 1));
        add(list, "nearer(none, 0, 0, -1)", NO_INDEX, x -> x.nearer(NO_TREE, 0, 0, -1));
        add(list, "nearer(not plain, 0, 12, 1)", NO_INDEX, x -> x.nearer(NOT_PLAIN, 0, 12, 1));
        add(list, "nearer(plain, 12, 12, 1)", NO_INDEX, x -> x.nearer(PLAIN_ONE, 12, 12, 1));
        add(list, "nearer(plain, 0, 11, 12)", NO_INDEX, x -> x.nearer(PLAIN_ONE, 0, 11, 12));
        add(list, "nearer(8, 0, 0, 1)", NO_INDEX, x -> x.nearer(8, 0, 0, 1));
        add(list, "nearer(none, 0, 0, 1)", BAD_STATE, x -> x.nearer(NO_TREE, 0, 0, 1));
        add(list, "nearer(not plain, 0, 0, 1)", BAD_STATE, x -> x.nearer(NOT_PLAIN, 0, 0, 1));
        add(list, "nearer(not plain, 0, 1, 2)", BAD_STATE, x -> x.nearer(NOT_PLAIN, 0, 1, 2));
        add(list, "unlike(none, 8)", NO_INDEX, x -> x.unlike(NO_TREE, 8));
        add(list, "unlike(not plain, 8)", NO_INDEX, x -> x.unlike(NOT_PLAIN, 8));
        add(list, "unlike(8, none)", NO_INDEX, x -> x.unlike(8, NO_TREE));
        add(list, "alike(none, 8)", NO_INDEX, x -> x.alike(NO_TREE, 8));
        add(list, "alike(not plain, 8)", NO_INDEX, x -> x.alike(NOT_PLAIN, 8));
        add(list, "alike(8, none)", NO_INDEX, x -> x.alike(8, NO_TREE));
        add(list, "cut(none, 1, 8)", NO_INDEX, x -> x.cut(NO_TREE, 1, 8));
        add(list, "cut(not plain, 0, 8)", NO_INDEX, x -> x.cut(NOT_PLAIN, 0, 8));
        add(list, "cut(plain, 0, 8)", NO_INDEX, x -> x.cut(PLAIN_ONE, 0, 8));
        add(list, "cut(8, 0, none)", NO_INDEX, x -> x.cut(8, 0, NO_TREE));
        add(list, "cut(none, 0, 0)", BAD_STATE, x -> x.cut(NO_TREE, 0, 0));
        add(list, "cut(not plain, 0, 0)", BAD_STATE, x -> x.cut(NOT_PLAIN, 0, 0));
        add(list, "build(0, 8)", NO_INDEX, x -> x.build(0, 8));
        add(list, "perfect(4096, -1)", NO_INDEX, x -> x.perfect(4096, -1));
        add(list, "state(8, 12, 0)", NO_INDEX, x -> x.state(8, 12, 0));
        add(list, "state(0, 12, 4)", NO_INDEX, x -> x.state(0, 12, 4));
        add(list, "state(-1, -1, -1)", NO_INDEX, x -> x.state(-1, -1, -1));
        add(list, "changes(8, 8)", NO_INDEX, x -> x.changes(8, 8));
        add(list, "changes(none, 8)", BAD_STATE, x -> x.changes(NO_TREE, 8));
        add(list, "distance(12, 12, 1)", NO_INDEX, x -> x.distance(12, 12, 1));
        add(list, "distance(0, 12, -1)", NO_INDEX, x -> x.distance(0, 12, -1));
        add(list, "distance(-1, 0, 100001)", NO_INDEX, x -> x.distance(-1, 0, 100001));
        add(list, "triple(12, 12, 0) of 80", NO_INDEX, x -> x.triple(12, 12, 0));
        add(list, "triple(0, 1, -1) of 80", NO_INDEX, x -> x.triple(0, 1, -1));
        add(list, "triple(0, 0, 12) of 80", NO_INDEX, x -> x.triple(0, 0, 12));
        add(list, "triple(0, 0, 1) of 80", BAD_ARGUMENT, x -> x.triple(0, 0, 1));
        add(list, "triple(0, 1, 1) of 80", BAD_ARGUMENT, x -> x.triple(0, 1, 1));
        add(list, "sign(4096) of 16", BAD_ARGUMENT, x -> x.sign(4096));
        add(list, "sign(-1) of 16", BAD_ARGUMENT, x -> x.sign(-1));
        for (int genes : new int[] {NO_TREE, NOT_BINARY}) {
            add(list, "doublings(" + genes + ", 8)", NO_INDEX, x -> x.doublings(genes, 8));
            add(list, "doublings(-1, " + genes + ")", NO_INDEX, x -> x.doublings(-1, genes));
            add(list, "losses(" + genes + ", 8)", NO_INDEX, x -> x.losses(genes, 8));
            add(list, "losses(-1, " + genes + ")", NO_INDEX, x -> x.losses(-1, genes));
        }
        addOfAgreeing(list);
        return list;
    }

    private static void addOfAgreeing(List<Refusal> list) {
        for (int set : new int[] {0, 256, -1, 1 << NO_TREE, 1 << NOT_PLAIN, 1 << PLAIN_ONE | 1 << OTHER_KINDS}) {
            add(list, "strict(" + set + ", 8)", NO_INDEX, x -> x.strict(set, 8));
            add(list, "most(" + set + ", -1)", NO_INDEX, x -> x.most(set, -1));
        }
        for (int set : new int[] {1 << NO_TREE, 1 << NOT_PLAIN, 1 << PLAIN_ONE | 1 << OTHER_KINDS}) {
            add(list, "strict(256 and " + set + ", 0)", BAD_ARGUMENT, x -> x.strict(256 | set, 0));
            add(list, "most(256 and " + set + ", 0)", BAD_ARGUMENT, x -> x.most(256 | set, 0));
        }
    }

    private static List<Refusal> ofNoShelf() {
        List<Refusal> list = new ArrayList<>();
        for (int no : Benches.NO_SHELVES) {
            add(list, "write(" + no + ")", NO_INDEX, x -> x.write(no));
            add(list, "clear(" + no + ")", NO_INDEX, x -> x.clear(no));
            add(list, "look(" + no + ", 0)", NO_INDEX, x -> x.look(no, 0));
            add(list, "has(" + no + ", 1)", NO_INDEX, x -> x.has(no, 1));
            add(list, "least(" + no + ", 1)", NO_INDEX, x -> x.least(no, 1));
            add(list, "nearer(" + no + ", 0, 1, 2)", NO_INDEX, x -> x.nearer(no, 0, 1, 2));
            add(list, "unlike(" + no + ", 0)", NO_INDEX, x -> x.unlike(no, 0));
            add(list, "unlike(0, " + no + ")", NO_INDEX, x -> x.unlike(0, no));
            add(list, "alike(" + no + ", 0)", NO_INDEX, x -> x.alike(no, 0));
            add(list, "alike(0, " + no + ")", NO_INDEX, x -> x.alike(0, no));
            add(list, "cut(" + no + ", 1, 0)", NO_INDEX, x -> x.cut(no, 1, 0));
            add(list, "cut(0, 1, " + no + ")", NO_INDEX, x -> x.cut(0, 1, no));
            add(list, "strict(1, " + no + ")", NO_INDEX, x -> x.strict(1, no));
            add(list, "most(1, " + no + ")", NO_INDEX, x -> x.most(1, no));
            add(list, "build(7, " + no + ")", NO_INDEX, x -> x.build(7, no));
            add(list, "shown(" + no + ")", NO_INDEX, x -> x.shown(no));
            add(list, "perfect(7, " + no + ")", NO_INDEX, x -> x.perfect(7, no));
            add(list, "changes(" + no + ", 0)", NO_INDEX, x -> x.changes(no, 0));
            add(list, "clock(" + no + ")", NO_INDEX, x -> x.clock(no));
            add(list, "nearest(" + no + ")", NO_INDEX, x -> x.nearest(no));
            add(list, "doublings(" + no + ", 0)", NO_INDEX, x -> x.doublings(no, 0));
            add(list, "doublings(0, " + no + ")", NO_INDEX, x -> x.doublings(0, no));
            add(list, "losses(" + no + ", 0)", NO_INDEX, x -> x.losses(no, 0));
            add(list, "losses(0, " + no + ")", NO_INDEX, x -> x.losses(0, no));
            add(list, "orders(" + no + ")", NO_INDEX, x -> x.orders(no));
        }
        return list;
    }

    private static List<Refusal> ofNoKind() {
        List<Refusal> list = new ArrayList<>();
        for (int no : Benches.NO_KINDS) {
            add(list, "nearer(0, " + no + ", 1, 2)", NO_INDEX, x -> x.nearer(0, no, 1, 2));
            add(list, "nearer(0, 1, " + no + ", 2)", NO_INDEX, x -> x.nearer(0, 1, no, 2));
            add(list, "nearer(0, 1, 2, " + no + ")", NO_INDEX, x -> x.nearer(0, 1, 2, no));
            add(list, "triple(" + no + ", 1, 2)", NO_INDEX, x -> x.triple(no, 1, 2));
            add(list, "triple(1, " + no + ", 2)", NO_INDEX, x -> x.triple(1, no, 2));
            add(list, "triple(1, 2, " + no + ")", NO_INDEX, x -> x.triple(1, 2, no));
            add(list, "state(0, " + no + ", 1)", NO_INDEX, x -> x.state(0, no, 1));
            add(list, "state(6, " + no + ", 1)", NO_INDEX, x -> x.state(6, no, 1));
            add(list, "distance(" + no + ", 1, 77)", NO_INDEX, x -> x.distance(no, 1, 77));
            add(list, "distance(1, " + no + ", 77)", NO_INDEX, x -> x.distance(1, no, 77));
        }
        return list;
    }

    private static List<Refusal> ofNoTree() {
        List<Refusal> list = new ArrayList<>();
        for (int no : new int[] {NO_TREE, NO_TREE_TOO}) {
            add(list, "write(none)", BAD_STATE, x -> x.write(no));
            add(list, "look(none, 0)", BAD_STATE, x -> x.look(no, 0));
            add(list, "has(none, 1)", BAD_STATE, x -> x.has(no, 1));
            add(list, "least(none, 0)", BAD_STATE, x -> x.least(no, 0));
            add(list, "nearer(none, 0, 1, 2)", BAD_STATE, x -> x.nearer(no, 0, 1, 2));
            add(list, "unlike(none, 0)", BAD_STATE, x -> x.unlike(no, 0));
            add(list, "unlike(0, none)", BAD_STATE, x -> x.unlike(0, no));
            add(list, "alike(none, 0)", BAD_STATE, x -> x.alike(no, 0));
            add(list, "alike(0, none)", BAD_STATE, x -> x.alike(0, no));
            add(list, "alike(none, none)", BAD_STATE, x -> x.alike(no, no));
            add(list, "cut(none, 1, 0)", BAD_STATE, x -> x.cut(no, 1, 0));
            add(list, "cut(none, 4095, none)", BAD_STATE, x -> x.cut(no, 4095, no));
            add(list, "strict(none, 0)", BAD_STATE, x -> x.strict(1 << no, 0));
            add(list, "strict(0 and none, 0)", BAD_STATE, x -> x.strict(1 << no | 1, 0));
            add(list, "most(none, 0)", BAD_STATE, x -> x.most(1 << no, 0));
            add(list, "most(0 and none, 0)", BAD_STATE, x -> x.most(1 << no | 1, 0));
            add(list, "shown(none)", BAD_STATE, x -> x.shown(no));
            add(list, "changes(none, 0)", BAD_STATE, x -> x.changes(no, 0));
            add(list, "doublings(none, 0)", BAD_STATE, x -> x.doublings(no, 0));
            add(list, "doublings(0, none)", BAD_STATE, x -> x.doublings(0, no));
            add(list, "losses(none, 0)", BAD_STATE, x -> x.losses(no, 0));
            add(list, "losses(0, none)", BAD_STATE, x -> x.losses(0, no));
            add(list, "orders(none)", BAD_STATE, x -> x.orders(no));
        }
        return list;
    }

    private static List<Refusal> ofNotPlain() {
        List<Refusal> list = new ArrayList<>();
        add(list, "has(not plain, 1)", BAD_STATE, x -> x.has(NOT_PLAIN, 1));
        add(list, "least(not plain, 1)", BAD_STATE, x -> x.least(NOT_PLAIN, 1));
        add(list, "nearer(not plain, 0, 1, 2)", BAD_STATE, x -> x.nearer(NOT_PLAIN, 0, 1, 2));
        add(list, "unlike(not plain, 0)", BAD_STATE, x -> x.unlike(NOT_PLAIN, 0));
        add(list, "unlike(0, not plain)", BAD_STATE, x -> x.unlike(0, NOT_PLAIN));
        add(list, "unlike(not plain, itself)", BAD_STATE, x -> x.unlike(NOT_PLAIN, NOT_PLAIN));
        add(list, "alike(not plain, 0)", BAD_STATE, x -> x.alike(NOT_PLAIN, 0));
        add(list, "alike(0, not plain)", BAD_STATE, x -> x.alike(0, NOT_PLAIN));
        add(list, "cut(not plain, 1, 0)", BAD_STATE, x -> x.cut(NOT_PLAIN, 1, 0));
        add(list, "strict(not plain, 0)", BAD_STATE, x -> x.strict(1 << NOT_PLAIN, 0));
        add(list, "most(not plain, 0)", BAD_STATE, x -> x.most(1 << NOT_PLAIN, 0));
        add(list, "shown(not plain)", BAD_STATE, x -> x.shown(NOT_PLAIN));
        add(list, "doublings(not plain, itself)", BAD_STATE, x -> x.doublings(NOT_PLAIN, NOT_PLAIN));
        add(list, "losses(not plain, itself)", BAD_STATE, x -> x.losses(NOT_PLAIN, NOT_PLAIN));
        return list;
    }

    private static List<Refusal> ofNotWhatIsToldElse() {
        List<Refusal> list = new ArrayList<>();
        int unlike = 1 << PLAIN_ONE | 1 << OTHER_KINDS;
        add(list, "strict(other kinds)", BAD_STATE, x -> x.strict(unlike, NO_TREE));
        add(list, "most(other kinds)", BAD_STATE, x -> x.most(unlike, NO_TREE));
        add(list, "doublings(not binary, plain)", BAD_STATE, x -> x.doublings(NOT_BINARY, PLAIN_ONE));
        add(list, "doublings(plain, not binary)", BAD_STATE, x -> x.doublings(PLAIN_ONE, STAR));
        add(list, "doublings(of other kinds)", BAD_STATE, x -> x.doublings(OTHER_KINDS, PLAIN_ONE));
        add(list, "losses(not binary, plain)", BAD_STATE, x -> x.losses(NOT_BINARY, PLAIN_ONE));
        add(list, "losses(plain, not binary)", BAD_STATE, x -> x.losses(PLAIN_ONE, STAR));
        add(list, "losses(of other kinds)", BAD_STATE, x -> x.losses(OTHER_KINDS, PLAIN_ONE));
        return list;
    }

    private static List<Refusal> ofBadArguments() {
        List<Refusal> list = new ArrayList<>();
        add(list, "look(0, 6)", NO_SUCH, x -> x.look(0, 6));
        add(list, "look(0, -1)", NO_SUCH, x -> x.look(0, -1));
        add(list, "nearer(0, 1, 1, 2)", NO_SUCH, x -> x.nearer(0, 1, 1, 2));
        add(list, "nearer(0, 1, 2, 11)", NO_SUCH, x -> x.nearer(0, 1, 2, 11));
        add(list, "triple(0, 1, 2) of 80", NO_MORE, x -> x.triple(0, 1, 2));
        add(list, "sign(7) of 16", NO_MORE, x -> x.sign(7));
        for (int to : new int[] {PLAIN_ONE, NO_TREE}) {
            add(list, "cut(0, 0, " + to + ")", BAD_ARGUMENT, x -> x.cut(0, 0, to));
            add(list, "cut(0, 4080, " + to + ")", BAD_ARGUMENT, x -> x.cut(0, 4080, to));
            for (int set : new int[] {0, -1, 256}) {
                add(list, "strict(" + set + ", " + to + ")", BAD_ARGUMENT, x -> x.strict(set, to));
                add(list, "most(" + set + ", " + to + ")", BAD_ARGUMENT, x -> x.most(set, to));
            }
            for (int set : new int[] {0, -1, 4096}) {
                add(list, "build(" + set + ", " + to + ")", BAD_ARGUMENT, x -> x.build(set, to));
                add(list, "perfect(" + set + ", " + to + ")", BAD_ARGUMENT, x -> x.perfect(set, to));
            }
        }
        for (int bad : new int[] {-1, 8, Integer.MIN_VALUE, Integer.MAX_VALUE}) {
            add(list, "state(" + bad + ", 1, 2)", BAD_ARGUMENT, x -> x.state(bad, 1, 2));
            add(list, "state(1, 1, " + bad + ")", BAD_ARGUMENT, x -> x.state(1, 1, bad));
            add(list, "changes(0, " + bad + ")", BAD_ARGUMENT, x -> x.changes(0, bad));
        }
        for (int bad : new int[] {1, 13, 0, -1, Integer.MIN_VALUE, Integer.MAX_VALUE}) {
            add(list, "kinds(" + bad + ")", BAD_ARGUMENT, x -> x.kinds(bad));
        }
        for (int bad : new int[] {-1, 100001, Integer.MIN_VALUE, Integer.MAX_VALUE}) {
            add(list, "distance(0, 1, " + bad + ")", BAD_ARGUMENT, x -> x.distance(0, 1, bad));
        }
        add(list, "distance(3, 3, 5)", BAD_ARGUMENT, x -> x.distance(3, 3, 5));
        return list;
    }

    // ---- what is not refused

    private static void lastOnesAreThere() {
        LineageBench x = furnished();
        Check.due("shelf 7", x.look(7, 0), 1);
        Check.due("shelf 0", x.look(0, 0), 4);
        Check.due("kinds 0 and 11", x.nearer(STAR, 0, 11, 5), 3);
        x.state(0, 0, 1);
        x.state(0, 11, 1);
        x.distance(0, 11, 1);
        x.untriple();
        Check.due("kinds 0 and 11", x.triple(0, 11, 1), 1);
        Check.due("clear(7)", x.clear(7), true);
        Check.due("clear(0)", x.clear(0), true);
    }

    private static void notAsItMustBe() {
        areThrown(ofNotPlain());
        areThrown(ofNotWhatIsToldElse());
        LineageBench x = furnished();
        // where nothing is told, a tree may be any
        Check.due("write(not plain)", x.write(NOT_PLAIN), 6);
        Check.due("look(not plain, 0)", x.look(NOT_PLAIN, 0), 2);
        Check.due("changes(not plain, 0)", x.changes(NOT_PLAIN, 0), 0);
        Check.due("orders(not plain)", x.orders(NOT_PLAIN), 1);
        Check.due("orders(not binary)", x.orders(NOT_BINARY), 1);
        Check.due("has(not binary, 7)", x.has(NOT_BINARY, 7), true);
        Check.due("doublings(not plain, plain)", x.doublings(NOT_PLAIN, PLAIN_ONE), 1);
        Check.due("losses(not plain, plain)", x.losses(NOT_PLAIN, PLAIN_ONE), 0);
        Check.due("unlike of other kinds", x.unlike(PLAIN_ONE, OTHER_KINDS), 6);
        Check.due("alike of other kinds", x.alike(PLAIN_ONE, OTHER_KINDS), 1);
    }

    /** The tree comes to a shelf that had a larger one, a smaller one, or none. */
    private static void inPlaceOfWhatWasThere() {
        replaces("read", "((i,j),k);", x -> x.read(STAR), x -> x.read(7), x -> x.read(NO_TREE));
        replaces("cut", "(c,d);", x -> x.cut(0, 12, STAR), x -> x.cut(0, 12, 7), x -> x.cut(0, 12, NO_TREE));
        replaces("strict", "((a,e),(c,d));", x -> x.strict(8, STAR), x -> x.strict(8, 7), x -> x.strict(8, NO_TREE));
        replaces("most", "(a,b,c);", x -> x.most(4, STAR), x -> x.most(4, 7), x -> x.most(4, NO_TREE));
        replaces("build", "((f,g),h);", x -> x.build(224, STAR), x -> x.build(224, 7), x -> x.build(224, NO_TREE));
        replaces("perfect", "((f,g),l);", x -> x.perfect(2144, STAR), x -> x.perfect(2144, 7),
                x -> x.perfect(2144, NO_TREE));
        replaces("nearest", "((((a,b),c),d),e);", x -> x.nearest(STAR), x -> x.nearest(7), x -> x.nearest(NO_TREE));
        OnBench two = x -> x.kinds(2);
        replaces("clock", "(a,b);", x -> {
            two.call(x);
            x.clock(STAR);
        }, x -> {
            two.call(x);
            x.clock(7);
        }, x -> {
            two.call(x);
            x.clock(NO_TREE);
        });
    }

    private static void replaces(String name, String want, OnBench toStar, OnBench toLeaf, OnBench toNone) {
        OnBench[] calls = {toStar, toLeaf, toNone};
        int[] shelves = {STAR, 7, NO_TREE};
        for (int i = 0; i < calls.length; i++) {
            LineageBench x = furnished();
            String[] before = texts(x);
            x = furnished();
            calls[i].call(x);
            Check.due("shelves behind " + name, x.count(0), furnished().count(0) | 1 << shelves[i]);
            String[] behind = texts(x);
            for (int s = 0; s < 8; s++) {
                Check.due("shelf " + s + " behind " + name, behind[s], s == shelves[i] ? want : before[s]);
            }
            Check.due("leaves behind " + name, x.look(shelves[i], 0), want.replaceAll("[^a-l]", "").length());
            // what is done to one shelf later does not reach another one
            x.clear(shelves[i]);
            Check.due("cleared behind " + name, x.count(0), furnished().count(0) & ~(1 << shelves[i]));
        }
    }

    /** Answers about small trees are the same where large ones were on all shelves, and many times. */
    private static void nothingIsLeftOfLargerOnes() {
        String[] large = {"(a,".repeat(23) + "b" + ")".repeat(23) + ";", "(" + "a,b,c,d,".repeat(5) + "a,b,c,d);",
            "(".repeat(11) + "a,b),c),d),e),f),g),h),i),j),k),l);", "((a,b,c),((d,e),(f,g)),(h,i,j));",
            "((a,b)" + ",(a,b)".repeat(11) + ");"};
        String due = smallTrees(new LineageBench());
        for (String text : large) {
            LineageBench x = new LineageBench();
            Texts.read(x, 0, text);
            x.write(0);
            // one tree more than there are shelves, and all asked for all that can be kept of them
            for (int i = 0; i < 10; i++) {
                x.again();
                x.read(i % 8);
                x.orders(i % 8);
                x.changes(i % 8, 0);
            }
            Check.due("behind " + text, smallTrees(x), due);
        }
    }

    private static String smallTrees(LineageBench x) {
        StringBuilder seen = new StringBuilder();
        String[] texts = {"((a,b),c);", "((a,c),b);", "((c,d),(a,b));", "(b,a);", "l;"};
        for (int s = 0; s < texts.length; s++) {
            seen.append(Texts.read(x, s, texts[s])).append(Texts.written(x, s));
            for (int what = 0; what < 6; what++) {
                seen.append(' ').append(x.look(s, what));
            }
            seen.append(' ').append(x.orders(s)).append(' ').append(x.changes(s, 0));
            seen.append(' ').append(x.least(s, 3)).append(' ').append(x.least(s, 5)).append(x.has(s, 3));
            seen.append(' ').append(x.unlike(s, 0)).append(' ').append(x.alike(0, s));
            seen.append(' ').append(x.cut(s, 4095, 6)).append(' ').append(Texts.written(x, 6));
        }
        Benches.addTriples(x, "abc", "acb", "cda", "klj");
        Texts.read(x, 7, "(a,b,c);");
        seen.append(' ').append(x.nearer(7, 0, 1, 2)).append(x.shown(7)).append(x.has(7, 3)).append(x.least(7, 3));
        seen.append(' ').append(x.nearer(0, 0, 1, 2)).append(x.nearer(1, 0, 1, 2)).append(x.nearer(2, 0, 1, 3));
        for (int s = 0; s < 4; s++) {
            seen.append(' ').append(x.shown(s)).append(x.doublings(3, s)).append(x.losses(3, s));
        }
        seen.append(' ').append(x.strict(3, 5)).append(' ').append(x.most(1, 6)).append(x.unlike(5, 6));
        seen.append(' ').append(x.build(7, 5)).append(x.perfect(7, 6)).append(x.clock(7)).append(x.unlike(5, 7));
        x.nearest(5);
        return seen.append(x.unlike(5, 7)).append(x.unlike(6, 7)).toString();
    }

    private static String[] texts(LineageBench x) {
        String[] texts = new String[8];
        int shelves = x.count(0);
        for (int s = 0; s < 8; s++) {
            texts[s] = (shelves >> s & 1) == 1 ? Texts.written(x, s) : "none";
        }
        return texts;
    }
}
