/** Promises 23 (sign), 24 (unsign), 25 (perfect), 26 (state) and 27 (changes). */
public final class SignTest {
    public static void main(String[] args) {
        adding();
        perfectTrees();
        quarrels();
        telling();
        changing();
        allTellingsOfSmallTrees();
        Check.close();
    }

    private static void adding() {
        LineageBench x = new LineageBench();
        Check.badArgument("sign(-1)", () -> x.sign(-1));
        Check.badArgument("sign(4096)", () -> x.sign(4096));
        Check.due("sign(0)", x.sign(0), 1);
        Check.due("sign(4095)", x.sign(4095), 2);
        for (int i = 3; i <= 16; i++) {
            Check.due("sign " + i, x.sign(i), i);
        }
        Check.noMore("sign 17", () -> x.sign(1));
        Check.badArgument("a bad set ahead of no more", () -> x.sign(4096));
        Check.due("count(2)", x.count(2), 16);
        Check.due("unsign()", x.unsign(), 16);
        Check.due("count(2)", x.count(2), 0);
        Check.due("unsign() once more", x.unsign(), 0);
        Check.due("sign", x.sign(1), 1);
    }

    private static void isPerfect(LineageBench x, String set, String want) {
        Check.due("perfect " + set, x.perfect(Texts.set(set), 6), 0);
        Check.due("form of " + set, Texts.written(x, 6), want);
    }

    private static void perfectTrees() {
        LineageBench x = Benches.withSigns("abc", "ab", "de", "", "abcdefghijkl", "a", "abc");
        isPerfect(x, "abcdef", "(((a,b),c),(d,e),f);");
        isPerfect(x, "abcde", "(((a,b),c),(d,e));");
        isPerfect(x, "acdf", "((a,c),d,f);");
        isPerfect(x, "l", "l;");
        isPerfect(x, "a", "a;");
        isPerfect(Benches.withSigns("ab"), "abc", "((a,b),c);");
        isPerfect(x, "gl", "(g,l);");
        isPerfect(new LineageBench(), "abcdefghijkl", "(a,b,c,d,e,f,g,h,i,j,k,l);");
    }

    private static void quarrels() {
        LineageBench x = Benches.withSigns("l", "ab", "cd", "bc", "abcd", "ad");
        Check.due("ab and bc", x.perfect(Texts.set("abcd"), 0), 1000 + 16 + 3);
        Check.due("nothing came", x.count(0), 0);
        Check.due("cd and bc, as b is away", x.perfect(Texts.set("acd"), 0), 1000 + 16 * 2 + 5);
        isPerfect(x, "bc", "(b,c);");
        Check.due("the first two", Benches.withSigns("ab", "bc", "cd").perfect(4095, 0), 1001);
        Check.due("the first and the last", Benches.withSigns("ab", "cd", "b", "ac").perfect(4095, 0), 1003);
        LineageBench y = new LineageBench();
        for (int i = 0; i < 14; i++) {
            y.sign(i % 3);
        }
        y.sign(Texts.set("cd"));
        y.sign(Texts.set("de"));
        Check.due("the last two", y.perfect(4095, 1), 1000 + 16 * 14 + 15);
        Check.due("sharing none is no quarrel", y.perfect(Texts.set("abce"), 1), 0);
        Check.due("one in the other is no quarrel", y.perfect(Texts.set("abcd"), 1), 0);
        Check.due("form", Texts.written(y, 1), "((c,d),a,b);");
        y.perfect(4095, 1);
        Check.due("what was there stays", Texts.written(y, 1), "((c,d),a,b);");
        Check.badArgument("set 0", () -> y.perfect(0, 0));
        Check.badArgument("set 4096", () -> y.perfect(4096, 0));
        Check.badArgument("set -1", () -> y.perfect(-1, 0));
        Check.noIndex("no shelf, ahead of the set", () -> y.perfect(0, 8));
        Check.noIndex("no shelf", () -> y.perfect(1, -1));
    }

    private static void telling() {
        LineageBench x = new LineageBench();
        for (int bad : new int[] {-1, 8, Integer.MAX_VALUE, Integer.MIN_VALUE}) {
            Check.badArgument("row " + bad, () -> x.state(bad, 0, 0));
        }
        for (int bad : new int[] {-1, 4, Integer.MAX_VALUE, Integer.MIN_VALUE}) {
            Check.badArgument("state " + bad, () -> x.state(0, 0, bad));
        }
        Check.noIndex("kind 12, ahead of row and state", () -> x.state(8, 12, 4));
        Check.noIndex("kind -1", () -> x.state(0, -1, 0));
        Texts.read(x, 0, "(a,l);");
        x.state(7, 11, 3);
        for (int row = 0; row < 8; row++) {
            Check.due("row " + row + " by itself", x.changes(0, row), row == 7 ? 1 : 0);
        }
        x.state(7, 11, 0);
        Check.due("told anew", x.changes(0, 7), 0);
    }

    private static void changing() {
        Check.due("one leaf", Benches.changesOf("b;", "03"), 0);
        Check.due("two sides", Benches.changesOf("((a,b),(c,d));", "0011"), 1);
        Check.due("crossed", Benches.changesOf("((a,b),(c,d));", "0101"), 2);
        Check.due("a star", Benches.changesOf("(a,b,c,d,e,f);", "011222"), 3);
        Check.due("a star of four", Benches.changesOf("(a,b,c,d,e,f,g,h);", "00112233"), 6);
        Check.due("a node of three", Benches.changesOf("((a,b,c),(d,e),f);", "112113"), 2);
        Check.due("kinds twice", Benches.changesOf("(((a,a),b),((a,c),(b,c)));", "012"), 4);
        Check.due("a chain", Benches.changesOf("(((((a,b),c),d),e),f);", "010101"), 3);
        LineageBench x = new LineageBench();
        x.state(0, 1, 1);
        Texts.read(x, 0, "(a,(b,(a,b)),(b,a));");
        Check.due("many", x.changes(0, 0), 3);
        Texts.read(x, 0, "(a,b);");
        Check.due("few behind many", x.changes(0, 0), 1);
        x.clear(0);
        Check.badState("none, ahead of the row", () -> x.changes(0, 8));
        Texts.read(x, 0, "(a,b);");
        Check.badArgument("row 8", () -> x.changes(0, 8));
        Check.badArgument("row -1", () -> x.changes(0, -1));
        Check.noIndex("no shelf, ahead of the row", () -> x.changes(8, 8));
        Check.noIndex("no shelf", () -> x.changes(-1, 0));
    }

    /** The tree ((a,b),(c,d,e)) against a walk over all ways to tell its three nodes states. */
    private static void allTellingsOfSmallTrees() {
        for (int code = 0; code < 1024; code += 7) {
            LineageBench x = Benches.withTrees("((a,b),(c,d,e));");
            int[] s = new int[5];
            for (int k = 0; k < 5; k++) {
                s[k] = code >> 2 * k & 3;
                x.state(0, k, s[k]);
            }
            int fewest = 100;
            for (int way = 0; way < 64; way++) {
                int root = way & 3;
                int left = way >> 2 & 3;
                int right = way >> 4 & 3;
                int changes = one(root, left) + one(root, right) + one(left, s[0]) + one(left, s[1])
                        + one(right, s[2]) + one(right, s[3]) + one(right, s[4]);
                fewest = Math.min(fewest, changes);
            }
            Check.due("states " + code, x.changes(0, 0), fewest);
        }
    }

    private static int one(int a, int b) {
        return a == b ? 0 : 1;
    }
}
