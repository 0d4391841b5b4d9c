/** Promises 11 (has), 12 (least), 13 (nearer), 14 (unlike) and 15 (alike). */
public final class ClusterTest {
    public static void main(String[] args) {
        having();
        leastAround();
        whoIsNearer();
        unlikeOnes();
        alikeOnes();
        Check.close();
    }

    private static void having() {
        LineageBench x = Benches.withTrees("((a,b),(c,(d,l)),e);", "(a,a);", "c;");
        String[] clusters = {"a", "b", "c", "d", "e", "l", "ab", "dl", "cdl", "abcdel"};
        for (String cluster : clusters) {
            Check.due("has " + cluster, x.has(0, Texts.set(cluster)), true);
        }
        Check.due("has -1", x.has(0, -1), false);
        Check.due("has 4096 and 3", x.has(0, 4096 + 3), false);
        Check.due("has the top bit and 3", x.has(0, Integer.MIN_VALUE + 3), false);
        Check.due("one leaf has itself", x.has(2, 4), true);
        Check.due("one leaf has not none", x.has(2, 0), false);
        Check.badState("not plain", () -> x.has(1, 1));
        Check.badState("none", () -> x.has(3, 1));
        Check.noIndex("no shelf", () -> x.has(8, 1));
        Check.noIndex("no shelf", () -> x.has(-1, 1));
    }

    private static void leastAround() {
        LineageBench x = Benches.withTrees("((a,b),(c,(d,l)),e);", "(a,a);", "c;");
        Check.due("of a", x.least(0, Texts.set("a")), Texts.set("a"));
        Check.due("of ab", x.least(0, Texts.set("ab")), Texts.set("ab"));
        Check.due("of cl", x.least(0, Texts.set("cl")), Texts.set("cdl"));
        Check.due("of dl", x.least(0, Texts.set("dl")), Texts.set("dl"));
        Check.due("of ae", x.least(0, Texts.set("ae")), Texts.set("abcdel"));
        Check.due("of all", x.least(0, Texts.set("abcdel")), Texts.set("abcdel"));
        Check.due("of none", x.least(0, 0), -1);
        Check.due("of af", x.least(0, Texts.set("af")), -1);
        Check.due("of -1", x.least(0, -1), -1);
        Check.due("of 4096 and 1", x.least(0, 4097), -1);
        Check.due("of the top bit", x.least(0, Integer.MIN_VALUE), -1);
        Check.due("of one leaf", x.least(2, 4), 4);
        Check.badState("not plain", () -> x.least(1, 1));
        Check.badState("none", () -> x.least(3, 1));
        Check.noIndex("no shelf", () -> x.least(8, 1));
        Check.noIndex("no shelf", () -> x.least(-1, 0));
    }

    private static void whoIsNearer() {
        LineageBench x = Benches.withTrees("((a,b),(c,(d,l)),e);", "(a,a);");
        Check.due("ab|c", x.nearer(0, 0, 1, 2), 0);
        Check.due("ba|c", x.nearer(0, 1, 0, 2), 0);
        Check.due("ab|c as acb", x.nearer(0, 0, 2, 1), 1);
        Check.due("ab|c as cab", x.nearer(0, 2, 0, 1), 2);
        Check.due("dl|c", x.nearer(0, 3, 11, 2), 0);
        Check.due("cl|e", x.nearer(0, 2, 4, 11), 1);
        Check.due("ace", x.nearer(0, 0, 2, 4), 3);
        Check.noSuch("aab", () -> x.nearer(0, 0, 0, 1));
        Check.noSuch("aba", () -> x.nearer(0, 0, 1, 0));
        Check.noSuch("baa", () -> x.nearer(0, 1, 0, 0));
        Check.noSuch("abf", () -> x.nearer(0, 0, 1, 5));
        Check.noSuch("ffa", () -> x.nearer(0, 5, 5, 0));
        Check.noIndex("kind 12", () -> x.nearer(0, 12, 0, 0));
        Check.noIndex("kind 12", () -> x.nearer(0, 0, 12, 0));
        Check.noIndex("kind 12", () -> x.nearer(0, 0, 0, 12));
        Check.noIndex("kind -1", () -> x.nearer(0, -1, 1, 2));
        Check.noIndex("kind ahead of no tree", () -> x.nearer(2, 0, 1, 32));
        Check.noIndex("no shelf", () -> x.nearer(8, 0, 1, 2));
        Check.badState("none", () -> x.nearer(2, 0, 0, 1));
        Check.badState("not plain", () -> x.nearer(1, 0, 0, 1));
    }

    private static void unlikeOnes() {
        LineageBench x = Benches.withTrees("((a,b),(c,d));", "((b,a),c,d);", "((a,c),(b,d));", "((a,b),(e,f));",
                "(a,a);", "l;");
        Check.due("itself", x.unlike(0, 0), 0);
        Check.due("0 1", x.unlike(0, 1), 1);
        Check.due("1 0", x.unlike(1, 0), 1);
        Check.due("0 2", x.unlike(0, 2), 4);
        Check.due("0 3", x.unlike(0, 3), 8);
        Check.due("0 5", x.unlike(0, 5), 8);
        Check.badState("not plain", () -> x.unlike(0, 4));
        Check.badState("not plain", () -> x.unlike(4, 0));
        Check.badState("none", () -> x.unlike(0, 6));
        Check.badState("none", () -> x.unlike(6, 0));
        Check.noIndex("no shelf ahead of none", () -> x.unlike(6, 8));
        Check.noIndex("no shelf", () -> x.unlike(-1, 6));
    }

    private static void alikeOnes() {
        LineageBench x = Benches.withTrees("((a,b),(c,d));", "((b,a),c,d);", "((a,c),(b,d));", "((a,b),(e,f));",
                "(a,a);", "l;", "(a,b,c,d,e,f,g,h,i,j,k,l);");
        Check.due("itself", x.alike(0, 0), 4);
        Check.due("0 1", x.alike(0, 1), 2);
        Check.due("0 2", x.alike(0, 2), 0);
        Check.due("two kinds in both", x.alike(0, 3), 0);
        Check.due("no kind in both", x.alike(0, 5), 0);
        Check.due("a star and itself", x.alike(6, 6), 220);
        Check.due("a star and 1", x.alike(6, 1), 2);
        Texts.read(x, 5, "((a,b),(c,e));");
        Check.due("three kinds in both", x.alike(5, 0), 1);
        Texts.read(x, 5, "((b,c),(d,e));");
        Check.due("all but a, of which none is alike", x.alike(5, 0), 0);
        Texts.read(x, 5, "(b,(c,d),e);");
        Check.due("all but a", x.alike(5, 0), 1);
        Check.due("all but a", x.alike(6, 5), 2);
        Texts.read(x, 5, "(a,(c,d),l);");
        Check.due("all but b", x.alike(5, 0), 1);
        Check.due("all but some", x.alike(6, 5), 2);
        Check.badState("not plain", () -> x.alike(0, 4));
        Check.badState("not plain", () -> x.alike(4, 0));
        Check.badState("none", () -> x.alike(0, 7));
        Check.noIndex("no shelf ahead of none", () -> x.alike(7, 8));
        Check.noIndex("no shelf", () -> x.alike(-1, 7));
    }
}
