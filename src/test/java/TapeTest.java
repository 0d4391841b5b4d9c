/** Promises 1 (a new object), 2 (feed), 3 (end), 8 (again) and what count() tells of the tape. */
public final class TapeTest {
    public static void main(String[] args) {
        aNewObject();
        feeding();
        ending();
        againAndAgain();
        Check.close();
    }

    private static void aNewObject() {
        LineageBench x = new LineageBench();
        int[] due = {0, 0, 0, 12, 0, 0};
        for (int what = 0; what < due.length; what++) {
            Check.due("new: count(" + what + ")", x.count(what), due[what]);
        }
        Check.due("new: count(6)", x.count(6), LineageBench.NONE);
        Check.due("new: count(-1)", x.count(-1), LineageBench.NONE);
        Check.due("NONE", LineageBench.NONE, -1);
        Check.due("new: fault(0)", x.fault(0), 0);
        Check.due("new: fault(1)", x.fault(1), -1);
        Check.due("new: written(0)", x.written(0), -1);
        Check.due("new: again()", x.again(), 0);
        Check.due("new: untriple()", x.untriple(), 0);
        Check.due("new: unsign()", x.unsign(), 0);
        Check.due("new: fourPoints()", x.fourPoints(), true);
        for (int s = 0; s < 8; s++) {
            int shelf = s;
            Check.due("new: clear(" + s + ")", x.clear(s), false);
            Check.badState("new: look(" + s + ", 0)", () -> x.look(shelf, 0));
        }
        Texts.read(x, 0, "(a,b,c,d,e,f,g,h,i,j,k,l);");
        for (int row = 0; row < 8; row++) {
            Check.due("new: changes(0, " + row + ")", x.changes(0, row), 0);
        }
        Check.due("new: clock(1)", x.clock(1), true);
        Check.due("new: all distances are 0", Texts.written(x, 1), "(a,b,c,d,e,f,g,h,i,j,k,l);");
    }

    private static void feeding() {
        LineageBench x = new LineageBench();
        for (int i = 1; i <= 20; i++) {
            Check.due("feed " + i, x.feed(0x20202020, 0x20202020, 0x20202020, 0x20202020, 0x20202020), 20 * i);
        }
        Check.due("feed 21", x.feed(1, 2, 3, 4, 5), -1);
        Check.due("count(4) of a full tape", x.count(4), 400);
        x.end(381);
        Check.due("feed on 381", x.feed(1, 2, 3, 4, 5), -1);
        Check.due("count(4) still", x.count(4), 381);
        x.end(380);
        Check.due("feed on 380", x.feed('c' << 24 | ';' << 16 | 0x2020, 0x20202020, 0x20202020, 0x20202020,
                0x20202020), 400);
        Check.due("read of 400 bytes", x.read(0), 1);
        Check.due("kinds", x.look(0, 2), 4);
        Check.due("the tape is empty behind it", x.count(4), 0);
        x.feed(0xff280000, 0, 0, 0, 0);
        Check.badArgument("the highest byte of a number below 0 comes first", () -> x.read(0));
        Check.due("its place", x.fault(1), 0);
        orderOfBytes();
    }

    private static void orderOfBytes() {
        LineageBench x = new LineageBench();
        x.feed('(' << 24 | '(' << 16 | 'a' << 8 | ',', 'b' << 24 | ')' << 16 | ',' << 8 | '(',
                'c' << 24 | ',' << 16 | 'd' << 8 | ')', ',' << 24 | 'e' << 16 | ',' << 8 | 'f',
                ')' << 24 | ';' << 16 | ' ' << 8 | ' ');
        Check.due("read of five numbers", x.read(3), 6);
        Check.due("written", Texts.written(x, 3), "((a,b),(c,d),e,f);");
    }

    private static void ending() {
        LineageBench x = new LineageBench();
        Check.due("end(0) of none", x.end(0), true);
        Check.due("end(1) of none", x.end(1), false);
        x.feed('a' << 24 | ';' << 16, 0, 0, 0, 0);
        Check.due("end(21)", x.end(21), false);
        Check.due("end(-1)", x.end(-1), false);
        Check.due("end(min)", x.end(Integer.MIN_VALUE), false);
        Check.due("end(max)", x.end(Integer.MAX_VALUE), false);
        Check.due("count(4)", x.count(4), 20);
        Check.due("end(20)", x.end(20), true);
        Check.due("end(2)", x.end(2), true);
        Check.due("end(3) behind it", x.end(3), false);
        Check.due("count(4)", x.count(4), 2);
        Check.due("feed", x.feed(0, 0, 0, 0, 0), 22);
        Check.due("end(2)", x.end(2), true);
        Check.due("read", x.read(0), 1);
    }

    private static void againAndAgain() {
        LineageBench x = new LineageBench();
        Texts.read(x, 0, "(b,a);");
        x.write(0);
        Check.due("again()", x.again(), 6);
        Check.due("again() behind it", x.again(), 12);
        x.end(6);
        Check.due("read what was written", x.read(1), 2);
        Check.due("it is the same", Texts.written(x, 1), "(a,b);");
        x.write(0);
        for (int i = 0; i < 19; i++) {
            x.feed(0, 0, 0, 0, 0);
        }
        x.again();
        x.again();
        Check.due("again() to 398", x.again(), 398);
        Check.due("again() beyond 400", x.again(), -1);
        Check.due("nothing came", x.count(4), 398);
        x.end(394);
        Check.due("again() to 400", x.again(), 400);
        Check.due("again() on a full tape", x.again(), -1);
        Check.due("count(5)", x.count(5), 6);
        LineageBench y = new LineageBench();
        for (int i = 0; i < 20; i++) {
            y.feed(0, 0, 0, 0, 0);
        }
        Check.due("again() of nothing on a full tape", y.again(), 400);
    }
}
