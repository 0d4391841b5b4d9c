/** Promises 28 (kinds), 29 (distance), 30 (fourPoints), 31 (clock) and 32 (nearest). */
public final class DistanceTest {
    public static void main(String[] args) {
        counting();
        telling();
        fourPoints();
        clocks();
        nearestOnes();
        exactHalves();
        Check.close();
    }

    private static void counting() {
        LineageBench x = new LineageBench();
        for (int bad : new int[] {1, 13, 0, -1, Integer.MAX_VALUE, Integer.MIN_VALUE}) {
            Check.badArgument("kinds " + bad, () -> x.kinds(bad));
        }
        Check.due("count(3)", x.count(3), 12);
        for (int n = 2; n <= 12; n++) {
            x.kinds(n);
            Check.due("count(3)", x.count(3), n);
            x.nearest(0);
            Check.due("kinds of the nearest", x.look(0, 2), (1 << n) - 1);
            Check.due("clock of 0", x.clock(1), true);
            Check.due("kinds of the clock", x.look(1, 2), (1 << n) - 1);
            Check.due("nodes of the clock", x.look(1, 1), n + 1);
        }
    }

    private static void telling() {
        LineageBench x = new LineageBench();
        Check.badArgument("one kind", () -> x.distance(3, 3, 1));
        Check.badArgument("below 0", () -> x.distance(0, 1, -1));
        Check.badArgument("above 100000", () -> x.distance(0, 1, 100001));
        Check.noIndex("kind 12, ahead of the rest", () -> x.distance(12, 12, -1));
        Check.noIndex("kind -1", () -> x.distance(0, -1, 1));
        Check.noIndex("kind -1", () -> x.distance(-1, 0, 1));
        Check.noIndex("kind 12", () -> x.distance(12, 0, 1));
        Check.noIndex("kind 12", () -> x.distance(0, 12, 1));
        Check.due("all are 0 still", x.fourPoints(), true);
        x.distance(10, 11, 100000);
        Check.due("kinds that count", x.fourPoints(), false);
        Check.due("kinds that count", x.clock(0), false);
        x.kinds(11);
        Check.due("one does not count", x.fourPoints(), true);
        Check.due("one does not count", x.clock(0), true);
        // kinds above N are there, though they do not count
        x.distance(11, 10, 0);
        x.kinds(12);
        Check.due("the same both ways", x.fourPoints(), true);
        x.distance(1, 0, 5);
        Check.due("the same both ways", x.clock(0), false);
    }

    private static void fourPoints() {
        Check.due("two kinds", Benches.withDistances(2, 77).fourPoints(), true);
        Check.due("a tree's", Benches.withDistances(4, 3, 9, 10, 10, 11, 7).fourPoints(), true);
        Check.due("not a tree's", Benches.withDistances(4, 3, 9, 10, 10, 11, 25).fourPoints(), false);
        Check.due("a way round that is longer", Benches.withDistances(3, 2, 6, 7).fourPoints(), true);
        Check.due("as long", Benches.withDistances(3, 2, 6, 8).fourPoints(), true);
        Check.due("a way round that is shorter", Benches.withDistances(3, 2, 6, 9).fourPoints(), false);
        Check.due("two at one place", Benches.withDistances(3, 0, 6, 6).fourPoints(), true);
        Check.due("two at one place, unlike", Benches.withDistances(3, 0, 6, 7).fourPoints(), false);
        Check.due("the two lesser ones equal", Benches.withDistances(4, 5, 5, 5, 6, 5, 5).fourPoints(), false);
        int most = 100000;
        Check.due("the greatest", Benches.withDistances(4, most, most, most, most, most, most).fourPoints(), true);
    }

    private static void tells(LineageBench x, String want) {
        Check.due("clock", x.clock(2), true);
        Check.due("form", Texts.written(x, 2), want);
    }

    private static void clocks() {
        tells(Benches.withDistances(2, 9), "(a,b);");
        tells(Benches.withDistances(2, 0), "(a,b);");
        tells(Benches.withDistances(3, 2, 6, 6), "((a,b),c);");
        tells(Benches.withDistances(3, 6, 6, 6), "(a,b,c);");
        tells(Benches.withDistances(3, 6, 2, 6), "((a,c),b);");
        tells(Benches.withDistances(3, 0, 100000, 100000), "((a,b),c);");
        tells(Benches.withDistances(4, 2, 6, 6, 6, 6, 4), "((a,b),(c,d));");
        tells(Benches.withDistances(4, 2, 2, 2, 6, 6, 6), "((a,b,c),d);");
        tells(Benches.withDistances(5, 0, 0, 0, 6, 6, 6, 9, 9, 9, 9), "(((a,b,c),d),e);");
        Check.due("the greatest by itself", Benches.withDistances(3, 2, 6, 7).clock(0), false);
        Check.due("the least ones equal", Benches.withDistances(3, 2, 2, 3).clock(0), false);
        LineageBench x = Benches.withDistances(3, 2, 6, 7);
        Texts.read(x, 0, "(k,l);");
        x.clock(0);
        Check.due("nothing comes", Texts.written(x, 0), "(k,l);");
        Check.noIndex("no shelf", () -> x.clock(8));
        Check.noIndex("no shelf", () -> x.clock(-1));
    }

    private static void joins(LineageBench x, String want) {
        x.nearest(2);
        Check.due("form of the nearest", Texts.written(x, 2), want);
    }

    private static void nearestOnes() {
        joins(Benches.withDistances(2, 9), "(a,b);");
        joins(Benches.withDistances(3, 9, 1, 1), "((a,b),c);");
        joins(Benches.withDistances(4, 3, 9, 10, 10, 11, 7), "(((a,b),c),d);");
        joins(Benches.withDistances(4, 10, 3, 9, 9, 7, 11), "(((a,c),b),d);");
        // five kinds of a known tree ((a,b),c,(d,e)), whose sums tell a and b first
        joins(Benches.withDistances(5, 5, 9, 10, 9, 10, 8, 8, 9, 7, 3), "((((a,b),c),d),e);");
        LineageBench star = new LineageBench();
        joins(star, "(".repeat(11) + "a,b),c),d),e),f),g),h),i),j),k),l);");
        LineageBench x = new LineageBench();
        Check.noIndex("no shelf", () -> x.nearest(8));
        Check.noIndex("no shelf", () -> x.nearest(-1));
        Check.due("nothing came", x.count(0), 0);
    }

    private static void tiedBits(String bits, String want) {
        int[] distances = new int[66];
        for (int i = 0; i < distances.length; i++) {
            distances[i] = bits.charAt(i) - '0';
        }
        joins(Benches.withDistances(12, distances), want);
    }

    /** Distances for which halves that are cut off behind five, six or seven bits would tell another tree. */
    private static void exactHalves() {
        tiedBits("101100100000011111111001001110110111000101000001010011111011011100",
                "((((((((f,l),c),a),(g,k)),j),i),b),((d,h),e));");
        tiedBits("010101001110011100000100110100100111010111101001000000111100101000",
                "(((((((((c,h),f),b),g),d),k),l),((a,j),e)),i);");
        tiedBits("000010000001100101010100000010001010010101011100100110100110101000",
                "(((((((((g,j),l),a),b),e),c),h),d),((f,k),i));");
        randomDistances();
    }

    private static void randomDistances() {
        java.util.Random random = new java.util.Random(20261116);
        for (int round = 0; round < 300; round++) {
            LineageBench x = new LineageBench();
            ReferenceBench y = new ReferenceBench();
            int n = 5 + random.nextInt(8);
            int top = round % 3 == 0 ? 3 : round % 3 == 1 ? 12 : 100000;
            x.kinds(n);
            y.kinds(n);
            for (int b = 1; b < n; b++) {
                for (int a = 0; a < b; a++) {
                    int d = random.nextInt(top + 1);
                    x.distance(a, b, d);
                    y.distance(b, a, d);
                }
            }
            x.nearest(0);
            y.nearest(0);
            Check.due("nearest in round " + round, Texts.written(x, 0), y.textOn(0));
        }
    }
}
