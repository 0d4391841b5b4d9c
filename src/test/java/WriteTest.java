/** Promises 6 (write), 7 (written), 9 (clear), 10 (look) and what count() tells of them. */
public final class WriteTest {
    public static void main(String[] args) {
        orderOfChildren();
        whatWasWrittenLast();
        clearing();
        looking();
        Check.close();
    }

    private static void form(String text, String want) {
        LineageBench x = new LineageBench();
        Texts.read(x, 2, text);
        Check.due("write of " + text, x.write(2), want.length());
        Check.due("form of " + text, Texts.written(x, 2), want);
        Check.due("count(5) of " + text, x.count(5), want.length());
        x.again();
        x.read(3);
        Check.due("form of the form of " + text, Texts.written(x, 3), want);
    }

    private static void orderOfChildren() {
        form(" l ; ", "l;");
        form("(b,a);", "(a,b);");
        form("(c,(b,a));", "((a,b),c);");
        form("(a,(b,c),(a,d));", "((a,d),(b,c),a);");
        // ) is a lesser byte than ,
        form("((a,b,c),(a,b));", "((a,b),(a,b,c));");
        form("((a,b,c),(a,c));", "((a,b,c),(a,c));");
        // ( is a lesser byte than a
        form("((a,b),((c,d),e));", "(((c,d),e),(a,b));");
        form("((a,(b,c)),((b,c),(b,d)));", "(((b,c),(b,d)),((b,c),a));");
        form("((a,a),(a,a),a,a);", "((a,a),(a,a),a,a);");
        form("(((a,b),(c,d)),((a,b),(c,d,e)),((a,b),c));", "(((a,b),(c,d)),((a,b),(c,d,e)),((a,b),c));");
        form("(l,k,j,i,h,g,f,e,d,c,b,a);", "(a,b,c,d,e,f,g,h,i,j,k,l);");
        form("(a,".repeat(23) + "b" + ")".repeat(23) + ";", "(".repeat(23) + "a,b)" + ",a)".repeat(22) + ";");
        form("(" + "b,a,".repeat(11) + "b,a);", "(" + "a,".repeat(12) + "b,".repeat(11) + "b);");
    }

    private static void whatWasWrittenLast() {
        LineageBench x = new LineageBench();
        Check.badState("write of none", () -> x.write(0));
        Check.noIndex("write(8)", () -> x.write(8));
        Check.noIndex("write(-1)", () -> x.write(-1));
        Texts.read(x, 0, "(a,".repeat(23) + "b" + ")".repeat(23) + ";");
        Check.due("the longest", x.write(0), 94);
        Check.due("its last byte", x.written(93), ';');
        Check.due("behind it", x.written(94), -1);
        Texts.read(x, 1, "(c,d);");
        Check.due("reading leaves it", x.count(5), 94);
        Check.due("a short one", x.write(1), 6);
        int[] bytes = {'(', 'c', ',', 'd', ')', ';', -1};
        for (int i = 0; i < bytes.length; i++) {
            Check.due("written(" + i + ")", x.written(i), bytes[i]);
        }
        Check.due("written(-1)", x.written(-1), -1);
        Check.due("written(min)", x.written(Integer.MIN_VALUE), -1);
        Check.due("written(max)", x.written(Integer.MAX_VALUE), -1);
        Check.badState("write of none", () -> x.write(2));
        x.clear(1);
        Check.due("it stays", x.written(1), 'c');
    }

    private static void clearing() {
        LineageBench x = new LineageBench();
        Texts.read(x, 0, "a;");
        Texts.read(x, 7, "a;");
        Check.due("count(0)", x.count(0), 129);
        Check.due("clear(7)", x.clear(7), true);
        Check.due("clear(7) once more", x.clear(7), false);
        Check.due("count(0)", x.count(0), 1);
        Check.badState("look at it", () -> x.look(7, 0));
        Check.noIndex("clear(8)", () -> x.clear(8));
        Check.noIndex("clear(-1)", () -> x.clear(-1));
        Texts.read(x, 7, "(a,b);");
        Check.due("a new one", x.look(7, 0), 2);
    }

    private static void lookAt(String text, int... want) {
        LineageBench x = new LineageBench();
        Texts.read(x, 5, text);
        for (int what = 0; what < want.length; what++) {
            Check.due("look(5, " + what + ") at " + text, x.look(5, what), want[what]);
        }
        Check.noSuch("look(5, 6)", () -> x.look(5, 6));
        Check.noSuch("look(5, -1)", () -> x.look(5, -1));
        Check.noIndex("look(8, 6)", () -> x.look(8, 6));
        Check.noIndex("look(-1, 0)", () -> x.look(-1, 0));
        Check.badState("look(4, 6)", () -> x.look(4, 6));
    }

    private static void looking() {
        lookAt("l;", 1, 1, 2048, 1, 1, 1);
        lookAt("(a,b);", 2, 3, 3, 1, 1, 2);
        lookAt("(a,a);", 2, 3, 1, 0, 1, 2);
        lookAt("(a,b,c);", 3, 4, 7, 1, 0, 2);
        lookAt("(d,((a,b),c,(e,f)));", 6, 10, 63, 1, 0, 4);
        lookAt("((a,b),((a,c),d));", 5, 9, 15, 0, 1, 4);
        lookAt("(a,".repeat(23) + "b" + ")".repeat(23) + ";", 24, 47, 3, 0, 1, 24);
        lookAt("(".repeat(11) + "a,b),c),d),e),f),g),h),i),j),k),l);", 12, 23, 4095, 1, 1, 12);
    }
}
