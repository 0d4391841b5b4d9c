/** Promises 4 (read) and 5 (fault). */
public final class ReadTest {
    public static void main(String[] args) {
        goodTexts();
        noTexts();
        tooMuch();
        whatReadingLeaves();
        everyByte();
        Check.close();
    }

    private static void goodTexts() {
        Texts.good("a;", 1);
        Texts.good("l;", 1);
        Texts.good("(a,b);", 2);
        Texts.good("(a,a);", 2);
        Texts.good("  ( a ,  ( b , c ) ) ;  ", 3);
        Texts.good("(a,b,c,d,e,f,g,h,i,j,k,l);", 12);
        Texts.good("(" + "a,".repeat(23) + "a);", 24);
        Texts.good("(".repeat(23) + "a" + ",b)".repeat(23) + ";", 24);
        Texts.good("(a,".repeat(23) + "b" + ")".repeat(23) + ";", 24);
        Texts.good(" ".repeat(398) + "a;", 1);
        Texts.good("a;" + " ".repeat(398), 1);
    }

    private static void noTexts() {
        Texts.bad("", 1, 0);
        Texts.bad("   ", 1, 3);
        Texts.bad(";", 1, 0);
        Texts.bad("a", 1, 1);
        Texts.bad("a  ", 1, 3);
        Texts.bad("a;b", 1, 2);
        Texts.bad("a;;", 1, 2);
        Texts.bad("a; \t", 1, 3);
        Texts.bad("a,b;", 1, 1);
        Texts.bad("a)", 1, 1);
        Texts.bad("ab;", 1, 1);
        Texts.bad("a b;", 1, 2);
        Texts.bad("m;", 1, 0);
        Texts.bad("`;", 1, 0);
        Texts.bad("A;", 1, 0);
        Texts.bad("(", 1, 1);
        Texts.bad("()", 1, 1);
        Texts.bad("(,a);", 1, 1);
        Texts.bad("(a);", 1, 2);
        Texts.bad("((a));", 1, 3);
        Texts.bad("((a,b));", 1, 6);
        Texts.bad("(a,);", 1, 3);
        Texts.bad("(a,b", 1, 4);
        Texts.bad("(a,b)", 1, 5);
        Texts.bad("(a,b;", 1, 4);
        Texts.bad("(a,b));", 1, 5);
        Texts.bad("(a b);", 1, 3);
        Texts.bad("(a(b,c));", 1, 2);
        Texts.bad("(a,b)(c,d);", 1, 5);
        Texts.bad("(a,b)c;", 1, 5);
        Texts.bad("a;\0", 1, 2);
        Texts.bad("(a,\u00e1);", 1, 3);
        Texts.bad(" ".repeat(400), 1, 400);
    }

    private static void tooMuch() {
        Texts.bad("(" + "a,".repeat(24) + "a);", 2, 49);
        Texts.bad("(".repeat(24), 2, 23);
        Texts.bad("(".repeat(10) + " " + "(".repeat(14), 2, 24);
        Texts.bad("(".repeat(23), 1, 23);
        Texts.bad("(".repeat(23) + ")", 1, 23);
        Texts.bad("(".repeat(23) + "a,(", 2, 25);
        // closed ones are not open
        Texts.good("((a,b)" + ",(a,b)".repeat(11) + ");", 24);
        Texts.bad("(" + "(a,b),".repeat(12) + "(((((", 1, 78);
        Texts.bad("(" + "(a,b),".repeat(12) + "(((((c", 2, 78);
        // more nodes than a tree can have, ahead of any fault
        String wide = "(a," .repeat(11) + "b" + ")".repeat(11);
        String many = "(" + wide + "," + wide + "," + "(".repeat(22);
        Texts.bad(many, 1, many.length());
        Texts.bad(many + "a", 2, many.length());
        Texts.bad(many + "(", 2, many.length());
        Texts.bad(many + ";", 1, many.length());
        Texts.bad("(" + "a,".repeat(24) + ";", 1, 49);
        Texts.bad("(" + "a,".repeat(23) + "a b", 1, 49);
    }

    private static void whatReadingLeaves() {
        LineageBench x = new LineageBench();
        Texts.read(x, 7, "(c,(a,b));");
        x.write(7);
        Texts.lay(x, "(a");
        Check.badArgument("a fault", () -> x.read(7));
        Check.due("the old tree is there", x.look(7, 0), 3);
        Check.due("what was written too", x.count(5), 10);
        Texts.lay(x, "(a,b);");
        Check.noIndex("read(8)", () -> x.read(8));
        Check.due("the tape is used up", x.count(4), 0);
        Check.due("fault(0) is of the read of a shelf", x.fault(0), 1);
        Check.due("fault(1) is of the read of a shelf", x.fault(1), 2);
        Check.noIndex("read(-1)", () -> x.read(-1));
        Check.noIndex("read(min)", () -> x.read(Integer.MIN_VALUE));
        Check.due("read in its place", Texts.read(x, 7, "(a,b);"), 2);
        Check.due("fault(0) behind it", x.fault(0), 0);
        Check.due("fault(1) behind it", x.fault(1), -1);
        Check.due("the new tree", Texts.written(x, 7), "(a,b);");
        Texts.lay(x, "q;");
        Check.noIndex("read(8) ahead of the fault", () -> x.read(8));
        Check.due("no fault of it", x.fault(0), 0);
    }

    private static void everyByte() {
        for (int value = 0; value < 256; value++) {
            boolean letter = value >= 'a' && value <= 'l';
            LineageBench x = new LineageBench();
            Texts.lay(x, (char) value + ";");
            if (letter) {
                Check.due("byte " + value, x.read(0), 1);
            } else {
                Check.badArgument("byte " + value, () -> x.read(0));
                int place = value == ' ' || value == '(' ? 1 : 0;
                Check.due("place of byte " + value, x.fault(1), place);
            }
        }
    }
}
