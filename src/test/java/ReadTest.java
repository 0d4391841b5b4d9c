/** Promises 4 (read) and 5 (fault). */
public final class ReadTest {
    public static void main(String[] args) {
        goodTexts();
        noTexts();
        tooMuch();
        whatReadingLeaves();
        everyByte();
        Check.close();
    }

    private static void good(String text, int leaves) {
        LineageBench x = new LineageBench();
        Check.due("read of " + text, Texts.read(x, 0, text), leaves);
        Check.due("fault(0) of " + text, x.fault(0), 0);
        Check.due("fault(1) of " + text, x.fault(1), -1);
        Check.due("fault(2) of " + text, x.fault(2), -1);
        Check.due("fault(-1) of " + text, x.fault(-1), -1);
        Check.due("shelves of " + text, x.count(0), 1);
    }

    private static void bad(String text, int fault, int place) {
        LineageBench x = new LineageBench();
        Texts.lay(x, text);
        Check.badArgument("read of " + text, () -> x.read(0));
        Check.due("fault(0) of " + text, x.fault(0), fault);
        Check.due("fault(1) of " + text, x.fault(1), place);
        Check.due("fault(2) of " + text, x.fault(2), -1);
        Check.due("tape behind " + text, x.count(4), 0);
        Check.due("shelves of " + text, x.count(0), 0);
    }

    private static void goodTexts() {
        good("a;", 1);
        good("l;", 1);
        good("(a,b);", 2);
        good("(a,a);", 2);
        good("  ( a ,  ( b , c ) ) ;  ", 3);
        good("(a,b,c,d,e,f,g,h,i,j,k,l);", 12);
        good("(" + "a,".repeat(23) + "a);", 24);
        good("(".repeat(23) + "a" + ",b)".repeat(23) + ";", 24);
        good("(a,".repeat(23) + "b" + ")".repeat(23) + ";", 24);
        good(" ".repeat(398) + "a;", 1);
        good("a;" + " ".repeat(398), 1);
    }

    private static void noTexts() {
        bad("", 1, 0);
        bad("   ", 1, 3);
        bad(";", 1, 0);
        bad("a", 1, 1);
        bad("a  ", 1, 3);
        bad("a;b", 1, 2);
        bad("a;;", 1, 2);
        bad("a; \t", 1, 3);
        bad("a,b;", 1, 1);
        bad("a)", 1, 1);
        bad("ab;", 1, 1);
        bad("a b;", 1, 2);
        bad("m;", 1, 0);
        bad("`;", 1, 0);
        bad("A;", 1, 0);
        bad("(", 1, 1);
        bad("()", 1, 1);
        bad("(,a);", 1, 1);
        bad("(a);", 1, 2);
        bad("((a));", 1, 3);
        bad("((a,b));", 1, 6);
        bad("(a,);", 1, 3);
        bad("(a,b", 1, 4);
        bad("(a,b)", 1, 5);
        bad("(a,b;", 1, 4);
        bad("(a,b));", 1, 5);
        bad("(a b);", 1, 3);
        bad("(a(b,c));", 1, 2);
        bad("(a,b)(c,d);", 1, 5);
        bad("(a,b)c;", 1, 5);
        bad("a;\0", 1, 2);
        bad("(a,\u00e1);", 1, 3);
        bad(" ".repeat(400), 1, 400);
    }

    private static void tooMuch() {
        bad("(" + "a,".repeat(24) + "a);", 2, 49);
        bad("(".repeat(24), 2, 23);
        bad("(".repeat(10) + " " + "(".repeat(14), 2, 24);
        bad("(".repeat(23), 1, 23);
        bad("(".repeat(23) + ")", 1, 23);
        bad("(".repeat(23) + "a,(", 2, 25);
        // closed ones are not open
        good("((a,b)" + ",(a,b)".repeat(11) + ");", 24);
        bad("(" + "(a,b),".repeat(12) + "(((((", 1, 78);
        bad("(" + "(a,b),".repeat(12) + "(((((c", 2, 78);
        // more nodes than a tree can have, ahead of any fault
        String wide = "(a," .repeat(11) + "b" + ")".repeat(11);
        String many = "(" + wide + "," + wide + "," + "(".repeat(22);
        bad(many, 1, many.length());
        bad(many + "a", 2, many.length());
        bad(many + "(", 2, many.length());
        bad(many + ";", 1, many.length());
        bad("(" + "a,".repeat(24) + ";", 1, 49);
        bad("(" + "a,".repeat(23) + "a b", 1, 49);
    }

    private static void whatReadingLeaves() {
        LineageBench x = new LineageBench();
        Texts.read(x, 7, "(c,(a,b));");
        x.write(7);
        Texts.lay(x, "(a");
        Check.badArgument("a fault", () -> x.read(7));
        Check.due("the old tree is there", x.look(7, 0), 3);
        Check.due("what was written too", x.count(5), 10);
        Texts.lay(x, "(a,b);");
        Check.noIndex("read(8)", () -> x.read(8));
        Check.due("the tape is used up", x.count(4), 0);
        Check.due("fault(0) is of the read of a shelf", x.fault(0), 1);
        Check.due("fault(1) is of the read of a shelf", x.fault(1), 2);
        Check.noIndex("read(-1)", () -> x.read(-1));
        Check.noIndex("read(min)", () -> x.read(Integer.MIN_VALUE));
        Check.due("read in its place", Texts.read(x, 7, "(a,b);"), 2);
        Check.due("fault(0) behind it", x.fault(0), 0);
        Check.due("fault(1) behind it", x.fault(1), -1);
        Check.due("the new tree", Texts.written(x, 7), "(a,b);");
        Texts.lay(x, "q;");
        Check.noIndex("read(8) ahead of the fault", () -> x.read(8));
        Check.due("no fault of it", x.fault(0), 0);
    }

    private static void everyByte() {
        for (int value = 0; value < 256; value++) {
            boolean letter = value >= 'a' && value <= 'l';
            LineageBench x = new LineageBench();
            Texts.lay(x, (char) value + ";");
            if (letter) {
                Check.due("byte " + value, x.read(0), 1);
            } else {
                Check.badArgument("byte " + value, () -> x.read(0));
                int place = value == ' ' || value == '(' ? 1 : 0;
                Check.due("place of byte " + value, x.fault(1), place);
            }
        }
    }
}
