/** Promises 19 (triple), 20 (untriple), 21 (build) and 22 (shown). */
public final class TripleTest {
    public static void main(String[] args) {
        adding();
        joining();
        clashes();
        showing();
        Check.close();
    }

    private static void adding() {
        LineageBench x = new LineageBench();
        for (int i = 1; i <= 80; i++) {
            Check.due("triple " + i, x.triple(0, 11, 1 + i % 10), i);
        }
        Check.noMore("triple 81", () -> x.triple(0, 1, 2));
        Check.badArgument("two are one, ahead of no more", () -> x.triple(0, 1, 1));
        Check.badArgument("two are one", () -> x.triple(1, 0, 1));
        Check.badArgument("two are one", () -> x.triple(1, 1, 0));
        Check.noIndex("no kind, ahead of two are one", () -> x.triple(12, 12, 0));
        Check.noIndex("no kind", () -> x.triple(-1, 0, 1));
        Check.noIndex("no kind", () -> x.triple(12, 0, 1));
        Check.noIndex("no kind", () -> x.triple(0, -1, 1));
        Check.noIndex("no kind", () -> x.triple(0, 0, 12));
        Check.due("count(1)", x.count(1), 80);
        Check.due("untriple()", x.untriple(), 80);
        Check.due("count(1)", x.count(1), 0);
        Check.due("untriple() once more", x.untriple(), 0);
        Check.due("triple", x.triple(0, 1, 2), 1);
    }

    private static void builds(LineageBench x, String set, String want) {
        Check.due("build " + set, x.build(Texts.set(set), 3), 0);
        Check.due("form of " + set, Texts.written(x, 3), want);
    }

    private static void joining() {
        LineageBench x = Benches.withTriples("abc", "bcd");
        builds(x, "abcd", "(((a,b),c),d);");
        builds(x, "abc", "((a,b),c);");
        builds(x, "abd", "(a,b,d);");
        builds(x, "bcd", "((b,c),d);");
        builds(x, "l", "l;");
        builds(x, "a", "a;");
        builds(x, "al", "(a,l);");
        builds(x, "abcdefghijkl", "(((a,b),c),d,e,f,g,h,i,j,k,l);");
        LineageBench y = Benches.withTriples("abc", "abc", "cde", "fga", "hij");
        builds(y, "abcdefgh", "((a,b),(c,d),(f,g),e,h);");
        LineageBench z = new LineageBench();
        builds(z, "abcdefghijkl", "(a,b,c,d,e,f,g,h,i,j,k,l);");
        // a chain that links all but one: each level again has one kind less
        for (int c = 11; c >= 2; c--) {
            for (int a = 1; a < c; a++) {
                z.triple(0, a, c);
            }
        }
        builds(z, "abcdefghijkl", "(".repeat(11) + "a,b),c),d),e),f),g),h),i),j),k),l);");
        Check.due("all are shown", z.shown(3), z.count(1));
    }

    private static void clashes() {
        LineageBench x = Benches.withTriples("abc", "bcd", "cda");
        Check.due("build abcd", x.build(15, 3), 15);
        Check.due("nothing came", x.count(0), 0);
        builds(x, "abc", "((a,b),c);");
        LineageBench y = Benches.withTriples("abc", "bca");
        Check.due("build abc", y.build(7, 0), 7);
        Check.due("build ab", y.build(3, 0), 0);
        // below the root, the part with the least kind is met first, and its own parts ahead of the next one
        LineageBench z = Benches.withTriples("ghi", "hig", "def", "efd", "abd", "bcd", "deg", "efg", "ghd", "hid");
        Check.due("build abcdefghi", z.build(511, 0), Texts.set("def"));
        Check.due("build abcghi", z.build(Texts.set("abcghi"), 0), Texts.set("ghi"));
        LineageBench w = Benches.withTriples("jkl", "klj", "jka", "kla", "abj", "acj", "adj", "aej", "bcd", "cdb",
                "bce", "cde", "bca", "cda");
        Check.due("a deep clash ahead of a shallow one", w.build(Texts.set("abcdejkl"), 0), Texts.set("bcd"));
        Check.due("a shallow one", w.build(Texts.set("abcejkl"), 0), Texts.set("jkl"));
        Check.badArgument("set 0", () -> w.build(0, 0));
        Check.badArgument("set 4096", () -> w.build(4096, 0));
        Check.badArgument("set -1", () -> w.build(-1, 0));
        Check.noIndex("no shelf, ahead of the set", () -> w.build(0, 8));
        Check.noIndex("no shelf", () -> w.build(1, -1));
        Check.due("set 4095", w.build(4095, 1), Texts.set("bcd"));
        Texts.read(w, 1, "(a,b);");
        w.build(4095, 1);
        Check.due("what was there stays", Texts.written(w, 1), "(a,b);");
    }

    private static void showing() {
        LineageBench x = Benches.withTriples("abc", "bac", "abc", "acb", "bca", "abl", "cda", "cdb", "abd");
        Texts.read(x, 0, "((a,b),c);");
        Check.due("shown", x.shown(0), 3);
        Texts.read(x, 1, "((a,b),(c,d));");
        Check.due("shown", x.shown(1), 6);
        Texts.read(x, 2, "(a,b,c,d);");
        Check.due("shown by a star", x.shown(2), 0);
        Texts.read(x, 3, "(a,a);");
        Check.badState("not plain", () -> x.shown(3));
        Check.badState("none", () -> x.shown(4));
        Check.noIndex("no shelf", () -> x.shown(8));
        Check.noIndex("no shelf", () -> x.shown(-1));
        x.untriple();
        Check.due("shown of none", x.shown(1), 0);
    }
}
