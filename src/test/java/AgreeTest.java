/** Promises 16 (cut), 17 (strict) and 18 (most). */
public final class AgreeTest {
    public static void main(String[] args) {
        cutting();
        allAgree();
        mostAgree();
        wrongCalls();
        Check.close();
    }

    private static void cutTo(String text, int set, String want, int leaves) {
        LineageBench x = new LineageBench();
        Texts.read(x, 0, text);
        Check.due("cut of " + text, x.cut(0, set, 4), leaves);
        Check.due("form of it", Texts.written(x, 4), want);
        Check.due("leaves of it", x.look(4, 0), leaves);
        Check.due("cut in its own place", x.cut(0, set, 0), leaves);
        Check.due("form of it", Texts.written(x, 0), want);
    }

    private static void cutting() {
        String text = "((a,b),(c,(d,l)),e);";
        cutTo(text, Texts.set("abcdel"), "(((d,l),c),(a,b),e);", 6);
        cutTo(text, Texts.set("acl"), "((c,l),a);", 3);
        cutTo(text, Texts.set("dl"), "(d,l);", 2);
        cutTo(text, Texts.set("abe"), "((a,b),e);", 3);
        cutTo(text, Texts.set("ae"), "(a,e);", 2);
        cutTo(text, Texts.set("cf"), "c;", 1);
        cutTo(text, -1, "(((d,l),c),(a,b),e);", 6);
        cutTo(text, 4096 + 1 + Integer.MIN_VALUE, "a;", 1);
        LineageBench x = new LineageBench();
        Texts.read(x, 0, text);
        Texts.read(x, 1, "(a,a);");
        Texts.read(x, 2, "(a,b);");
        Check.badArgument("none of them", () -> x.cut(0, Texts.set("fghijk"), 2));
        Check.badArgument("no kind", () -> x.cut(0, 0, 2));
        Check.badArgument("a bit of no kind", () -> x.cut(0, 4096, 2));
        Check.due("nothing came", Texts.written(x, 2), "(a,b);");
        Check.badState("not plain", () -> x.cut(1, 0, 2));
        Check.badState("none", () -> x.cut(5, 0, 2));
        Check.noIndex("no shelf to come to", () -> x.cut(5, 0, 8));
        Check.noIndex("no shelf", () -> x.cut(-1, 1, 0));
    }

    private static LineageBench three() {
        LineageBench x = new LineageBench();
        Texts.read(x, 0, "((a,b),((c,d),e));");
        Texts.read(x, 1, "((a,b),((c,e),d));");
        Texts.read(x, 2, "(((a,c),b),d,e);");
        return x;
    }

    private static void allAgree() {
        LineageBench x = three();
        Check.due("of one", x.strict(1, 3), 9);
        Check.due("of 0 1", x.strict(3, 3), 8);
        Check.due("form", Texts.written(x, 3), "((a,b),(c,d,e));");
        Check.due("of 0 1 2", x.strict(7, 3), 6);
        Check.due("form", Texts.written(x, 3), "(a,b,c,d,e);");
        Check.due("in the place of one of them", x.strict(3, 0), 8);
        Check.due("form", Texts.written(x, 0), "((a,b),(c,d,e));");
        Texts.read(x, 7, "f;");
        Check.due("of a leaf", x.strict(128, 7), 1);
        Check.due("form", Texts.written(x, 7), "f;");
    }

    private static void mostAgree() {
        LineageBench x = three();
        Check.due("of one", x.most(4, 3), 8);
        Check.due("form", Texts.written(x, 3), "(((a,c),b),d,e);");
        Check.due("of 0 1: half is not enough", x.most(3, 3), 8);
        Check.due("of 0 1 2", x.most(7, 3), 8);
        Check.due("form", Texts.written(x, 3), "((a,b),(c,d,e));");
        Texts.read(x, 3, "((a,b),c,d,e);");
        Check.due("three of four have ab, two cde", x.most(15, 4), 7);
        Check.due("form", Texts.written(x, 4), "((a,b),c,d,e);");
        LineageBench y = new LineageBench();
        for (int s = 0; s < 8; s++) {
            Texts.read(y, s, s < 5 ? "((a,b),c);" : "(a,(b,c));");
        }
        Check.due("five of eight", y.most(255, 0), 5);
        Check.due("form", Texts.written(y, 0), "((a,b),c);");
        Texts.read(y, 4, "(a,(b,c));");
        Check.due("four of eight", y.most(255, 7), 4);
        Check.due("form", Texts.written(y, 7), "(a,b,c);");
    }

    private static void wrongCalls() {
        LineageBench x = three();
        Texts.read(x, 3, "(a,a);");
        Texts.read(x, 4, "((a,b),c);");
        Texts.read(x, 5, "((a,b),(c,d,f));");
        Check.noIndex("strict to 8", () -> x.strict(0, 8));
        Check.noIndex("most to -1", () -> x.most(256, -1));
        for (int set : new int[] {0, 256, 257, -1, Integer.MIN_VALUE, 1 << 20}) {
            Check.badArgument("strict of " + set, () -> x.strict(set, 6));
            Check.badArgument("most of " + set, () -> x.most(set, 6));
        }
        for (int set : new int[] {8, 9, 64, 65, 17, 33, 128}) {
            Check.badState("strict of " + set, () -> x.strict(set, 6));
            Check.badState("most of " + set, () -> x.most(set, 6));
        }
        Check.due("nothing came", x.count(0), 63);
    }
}
