/** What the terms say of the tape, texts and shelves, and promises 2 to 8, sentence by sentence. */
public final class TextSentencesTest {
    private static final String LETTERS = "abcdefghijkl";

    public static void main(String[] args) {
        Sentence.open(args, "Terms 1", "Promise 2", "Promise 3", "Promise 4", "Promise 5", "Promise 6", "Promise 7",
                "Promise 8");
        termsOfTrees();
        termsOfTexts();
        tapePromises();
        readPromises();
        writtenPromises();
        Sentence.close();
    }

    private static void termsOfTrees() {
        String terms = "Terms 1";
        Sentence.test(terms, "KINDS are 0 to 11, written a to l.", TextSentencesTest::firstAndLastKind);
        Sentence.test(terms, "A set of KINDS is told as bits (bit k for KIND k).", TextSentencesTest::bitsOfKinds);
        Sentence.test(terms, "A TREE: NODES, each a LEAF with a KIND, or with two or more CHILDREN, which are NODES; "
                + "one is the ROOT", TextSentencesTest::fewestAndMostChildren);
        Sentence.test(terms, "at most 24 LEAVES.", TextSentencesTest::mostLeaves);
        Sentence.test(terms, "It is PLAIN, if no two LEAVES have one KIND", TextSentencesTest::plainOrNot);
        Sentence.test(terms, "BINARY, if no NODE has more than two CHILDREN.", TextSentencesTest::binaryOrNot);
        Sentence.test(terms, "The CLUSTER of a NODE is the set of the KINDS of all LEAVES that it has (itself, if it "
                + "is one).", TextSentencesTest::clusterOfLeaf);
        Sentence.test(terms, "A PLAIN TREE is told wholly by its CLUSTERS; two are the SAME, if they have the same "
                + "ones.", TextSentencesTest::sameTrees);
        Sentence.test(terms, "SHELVES 0 to 7 have a TREE or none (none at first).", TextSentencesTest::allShelves);
    }

    private static void termsOfTexts() {
        String terms = "Terms 1";
        Sentence.test(terms, "The TAPE has at most 400 bytes.", TextSentencesTest::fullTape);
        Sentence.test(terms, "A TEXT: a NODE and ; and nothing behind.", TextSentencesTest::nothingBehind);
        Sentence.test(terms, "A NODE: a letter a to l, or ( , NODES with a , between, two at least, and ) .",
                TextSentencesTest::twoAtLeast);
        Sentence.test(terms, "Blanks (32) may stand between all of these, ahead and behind.",
                TextSentencesTest::blanksEverywhere);
        Sentence.test(terms, "The FAULT, the first one along it:", TextSentencesTest::firstOfSeveralFaults);
        Sentence.test(terms, "1 at the first byte with which no TEXT goes on", TextSentencesTest::everyByteEverywhere);
        Sentence.test(terms, "(its length, if more must come)", TextSentencesTest::moreMustCome);
        Sentence.test(terms, "2 at a 25th LEAF", TextSentencesTest::leaf25);
        Sentence.test(terms, "or at a ( where 23 are open.", TextSentencesTest::opening24);
        Sentence.test(terms, "WRITTEN: the TEXT of a TREE without blanks,", TextSentencesTest::writtenWithoutBlanks);
        Sentence.test(terms, "the CHILDREN of each NODE in the order of their own TEXTS (without ;), byte by byte, "
                + "the lesser ahead.", TextSentencesTest::lesserAhead);
    }

    private static void tapePromises() {
        Sentence.test("Promise 2", "Twenty bytes come behind the TAPE, of each number the highest first: how many it "
                + "has", TextSentencesTest::highestByteFirst);
        Sentence.test("Promise 2", "NONE, and none come, if it would have more than 400.",
                TextSentencesTest::feedBeyond400);
        Sentence.test("Promise 3", "The TAPE has its first n bytes alone: true", TextSentencesTest::firstBytesAlone);
        Sentence.test("Promise 3", "false, and nothing happens, if it has fewer,", TextSentencesTest::endOfFewer);
        Sentence.test("Promise 3", "or n is below 0.", TextSentencesTest::endBelow0);
        Sentence.test("Promise 8", "What was WRITTEN last comes behind the TAPE: how many bytes it has",
                TextSentencesTest::againBehindTape);
        Sentence.test("Promise 8", "NONE, and nothing comes, if it would have more than 400.",
                TextSentencesTest::againBeyond400);
    }

    private static void readPromises() {
        Sentence.test("Promise 4", "Uses the TAPE up (it is empty behind the call)", TextSentencesTest::usedUp);
        Sentence.test("Promise 4", "its TREE comes to a SHELF: how many LEAVES.", TextSentencesTest::readLeaves);
        Sentence.test("Promise 4", "IndexOutOfBoundsException;", TextSentencesTest::readToNoShelf);
        Sentence.test("Promise 4", "IllegalArgumentException: a FAULT.", TextSentencesTest::readFault);
        Sentence.test("Promise 5", "Of the latest read() of a SHELF that there is,", TextSentencesTest::latestRead);
        Sentence.test("Promise 5", "what 0: the FAULT (0 without one, and ahead of any),",
                TextSentencesTest::faultWithoutOne);
        Sentence.test("Promise 5", "1: its place (NONE).", TextSentencesTest::placeWithoutOne);
        Sentence.test("Promise 5", "NONE for another what.", TextSentencesTest::anotherWhatOfFault);
    }

    private static void writtenPromises() {
        Sentence.test("Promise 6", "The TREE is WRITTEN: how many bytes.", TextSentencesTest::shortestAndLongest);
        Sentence.test("Promise 7", "Byte i of what was WRITTEN last", TextSentencesTest::firstAndLastByte);
        Sentence.test("Promise 7", "NONE if there is none such.", TextSentencesTest::noSuchByte);
    }

    // ---- helpers

    private static void form(String text, String want) {
        Check.due("form of " + text, Texts.written(Benches.withTrees(text), 0), want);
    }

    /** Two nodes, each of which may come first in the text that is read. */
    private static void ahead(String lesser, String other) {
        form("(" + lesser + "," + other + ");", "(" + lesser + "," + other + ");");
        form("(" + other + "," + lesser + ");", "(" + lesser + "," + other + ");");
    }

    private static String chain(int open) {
        return "(a,".repeat(open) + "b" + ")".repeat(open) + ";";
    }

    private static String star(int leaves) {
        return "(" + "a,".repeat(leaves - 1) + "a);";
    }

    // ---- terms of trees

    private static void firstAndLastKind() {
        LineageBench x = Benches.withTrees("a;", "l;", "(a,b,c,d,e,f,g,h,i,j,k,l);");
        Check.due("a is kind 0", x.look(0, 2), 1);
        Check.due("l is kind 11", x.look(1, 2), 1 << 11);
        Check.due("all", x.look(2, 2), 4095);
        Texts.bad("`;", 1, 0);
        Texts.bad("m;", 1, 0);
        Texts.bad("A;", 1, 0);
        Texts.bad("L;", 1, 0);
        x.state(0, 0, 1);
        x.state(0, 11, 1);
        Check.due("kinds 0 and 11 have states", x.changes(2, 0), 2);
        Check.noIndex("kind 12", () -> x.state(0, 12, 1));
        Check.noIndex("kind -1", () -> x.state(0, -1, 1));
    }

    private static void bitsOfKinds() {
        for (int k = 0; k < 12; k++) {
            LineageBench x = Benches.withTrees(LETTERS.charAt(k) + ";");
            Check.due("set of " + LETTERS.charAt(k), x.look(0, 2), 1 << k);
            Check.due("has it", x.has(0, 1 << k), true);
            Check.due("least around it", x.least(0, 1 << k), 1 << k);
        }
    }

    private static void fewestAndMostChildren() {
        Check.due("one leaf is a tree", Benches.withTrees("a;").look(0, 1), 1);
        Check.due("two children", Benches.withTrees("(a,b);").look(0, 1), 3);
        Check.due("24 children", Benches.withTrees(star(24)).look(0, 1), 25);
        Check.due("most nodes", Benches.withTrees(chain(23)).look(0, 1), 47);
        Texts.bad("(a);", 1, 2);
        Texts.bad("();", 1, 1);
    }

    private static void mostLeaves() {
        Texts.good(star(24), 24);
        Texts.good(chain(23), 24);
        Texts.good("((a,b)" + ",(a,b)".repeat(11) + ");", 24);
        Texts.bad(star(25), 2, 49);
    }

    private static void plainOrNot() {
        Check.due("one leaf", Benches.withTrees("a;").look(0, 3), 1);
        Check.due("twelve", Benches.withTrees("(a,b,c,d,e,f,g,h,i,j,k,l);").look(0, 3), 1);
        Check.due("two of one kind", Benches.withTrees("(a,a);").look(0, 3), 0);
        Check.due("the last twice", Benches.withTrees("(l,((a,b),(c,l)));").look(0, 3), 0);
        Check.due("thirteen leaves", Benches.withTrees("(a,b,c,d,e,f,g,h,i,j,k,l,a);").look(0, 3), 0);
    }

    private static void binaryOrNot() {
        Check.due("one leaf", Benches.withTrees("a;").look(0, 4), 1);
        Check.due("two", Benches.withTrees("(a,b);").look(0, 4), 1);
        Check.due("three", Benches.withTrees("(a,b,c);").look(0, 4), 0);
        Check.due("three at the deepest", Benches.withTrees("(a,(b,(c,(d,e,f))));").look(0, 4), 0);
        Check.due("a kind twice", Benches.withTrees("(a,(a,a));").look(0, 4), 1);
    }

    private static void clusterOfLeaf() {
        LineageBench x = Benches.withTrees("(b,(c,d));", "e;");
        Check.due("a leaf's", x.has(0, Texts.set("b")), true);
        Check.due("the root's, all", x.has(0, Texts.set("bcd")), true);
        Check.due("a node's", x.has(0, Texts.set("cd")), true);
        Check.due("no node's", x.has(0, Texts.set("bc")), false);
        Check.due("a root's that is a leaf", x.has(1, Texts.set("e")), true);
    }

    private static void sameTrees() {
        LineageBench x = Benches.withTrees("((a,b),(c,(d,e)));", "(((e,d),c),(b,a));", "((a,b),(c,d,e));");
        Check.due("unlike of the same", x.unlike(0, 1), 0);
        Check.due("form of the same", Texts.written(x, 0), Texts.written(x, 1));
        Check.due("unlike of others", x.unlike(0, 2), 1);
    }

    private static void allShelves() {
        LineageBench x = new LineageBench();
        Check.due("none at first", x.count(0), 0);
        for (int s = 0; s < 8; s++) {
            int shelf = s;
            Check.badState("none on " + s, () -> x.write(shelf));
            Texts.read(x, s, LETTERS.charAt(s) + ";");
        }
        Check.due("all have one", x.count(0), 255);
        for (int s = 0; s < 8; s++) {
            Check.due("shelf " + s, Texts.written(x, s), LETTERS.charAt(s) + ";");
        }
        Check.noIndex("shelf 8", () -> x.write(8));
        Check.noIndex("shelf -1", () -> x.write(-1));
    }

    // ---- terms of texts

    private static void fullTape() {
        LineageBench x = Benches.withFullTape();
        Check.due("bytes of a full tape", x.count(4), 400);
        Texts.good(" ".repeat(398) + "a;", 1);
        Texts.good("(" + " ".repeat(394) + "a,b);", 2);
        Check.due("20 more", x.feed(0, 0, 0, 0, 0), -1);
        Check.due("bytes still", x.count(4), 400);
    }

    private static void nothingBehind() {
        Texts.good("a;", 1);
        Texts.bad("a;a", 1, 2);
        Texts.bad("a;;", 1, 2);
        Texts.bad("a;(a,b);", 1, 2);
        Texts.bad("(a,b);\0", 1, 6);
        Texts.bad("a", 1, 1);
        Texts.bad(";", 1, 0);
    }

    private static void twoAtLeast() {
        Texts.bad("()", 1, 1);
        Texts.bad("(a)", 1, 2);
        Texts.bad("((a,b))", 1, 6);
        Texts.bad("(a,)", 1, 3);
        Texts.bad("(,a)", 1, 1);
        Texts.bad("(a,,b)", 1, 3);
        Texts.bad("(ab)", 1, 2);
        Texts.bad("a,b;", 1, 1);
        Texts.good("(a,b);", 2);
        Texts.good("(a,b,c);", 3);
        Texts.good("((a,b),(c,d));", 4);
    }

    private static void blanksEverywhere() {
        String text = "((a,b),c);";
        Texts.good(" " + text.replaceAll("(.)", "$1  "), 3);
        for (int at = 0; at <= text.length(); at++) {
            String ahead = text.substring(0, at);
            String behind = text.substring(at);
            Texts.good(ahead + " " + behind, 3);
            for (int value : new int[] {0, 9, 10, 11, 12, 13, 31, 33, 95, 160}) {
                Texts.bad(ahead + (char) value + behind, 1, at);
            }
        }
    }

    private static void firstOfSeveralFaults() {
        Texts.bad("a?;!", 1, 1);
        Texts.bad("(" + "a,".repeat(24) + "a?", 2, 49);
        Texts.bad("(" + "a,".repeat(23) + "?,a,a,a", 1, 47);
        Texts.bad("(".repeat(24) + "?", 2, 23);
        Texts.bad("(".repeat(22) + "?((", 1, 22);
        Texts.bad("(" + "a,".repeat(24) + "a," + "(".repeat(24), 2, 49);
        Texts.bad("(".repeat(24) + "a,".repeat(25), 2, 23);
    }

    /** What may stand next behind each way of standing in a text; all other bytes are a fault there. */
    private static void everyByteEverywhere() {
        String node = " (" + LETTERS;
        String[][] goesOn = {
            {"", node}, {"  ", node}, {"(", node}, {"( ", node}, {"((", node},
            {"(a,", node}, {"(a, ", node}, {"(a,b,", node}, {"((a,b),", node}, {"((a,", node},
            {"a", " ;"}, {"l ", " ;"}, {"(a,b)", " ;"}, {"(a,(b,c)) ", " ;"},
            {"(a", " ,"}, {"(a ", " ,"}, {"((a,b)", " ,"}, {"((a,b),(c", " ,"}, {"(a,b,(c", " ,"},
            {"(a,b", " ,)"}, {"(a,b ", " ,)"}, {"(a,b,c", " ,)"}, {"((a,b),c", " ,)"}, {"(a,(b,c)", " ,)"},
            {"((a,b", " ,)"}, {"a;", " "}, {"a; ", " "}, {"(a,b);", " "}};
        for (String[] row : goesOn) {
            for (int value = 0; value < 256; value++) {
                byteBehind(row[0], (char) value, row[1]);
            }
        }
    }

    private static void byteBehind(String ahead, char next, String goesOn) {
        String text = ahead + next;
        boolean due = goesOn.indexOf(next) >= 0;
        if (due && text.indexOf(';') >= 0) {
            Texts.good(text, text.startsWith("(") ? text.length() - text.replaceAll("[a-l]", "").length() : 1);
        } else {
            Texts.bad(text, 1, due ? text.length() : ahead.length());
        }
    }

    private static void moreMustCome() {
        Texts.bad("", 1, 0);
        Texts.bad(" ", 1, 1);
        Texts.bad("(", 1, 1);
        Texts.bad("(a", 1, 2);
        Texts.bad("(a,", 1, 3);
        Texts.bad("(a,b", 1, 4);
        Texts.bad("(a,b)", 1, 5);
        Texts.bad("(a,b)   ", 1, 8);
        Texts.bad(" ".repeat(400), 1, 400);
        Texts.bad("a" + " ".repeat(399), 1, 400);
        Texts.bad("(".repeat(23), 1, 23);
    }

    private static void leaf25() {
        Texts.good("(" + " a ,".repeat(23) + "a);", 24);
        Texts.bad("(" + " a ,".repeat(24) + "a);", 2, 97);
        Texts.bad("(" + "(a,b),".repeat(12) + "l);", 2, 73);
        Texts.bad("(" + "(a,b),".repeat(12) + "(((l", 2, 76);
        Texts.bad("(".repeat(23) + "a,".repeat(24) + "a", 2, 71);
        // no leaf can stand there, whatever its number
        Texts.bad("(" + "a,".repeat(23) + "aa", 1, 48);
        Texts.bad(star(24) + "a", 1, 50);
        // the 25th that is no leaf
        Texts.bad("(" + "a,".repeat(24) + "m", 1, 49);
        Texts.bad("(" + "a,".repeat(24) + "(", 1, 50);
    }

    private static void opening24() {
        Texts.good("(".repeat(23) + "a" + ",b)".repeat(23) + ";", 24);
        Texts.bad("(".repeat(24), 2, 23);
        Texts.bad(" (".repeat(24), 2, 47);
        Texts.bad("(".repeat(23) + "a,(", 2, 25);
        Texts.bad("(a,".repeat(23) + "(", 2, 69);
        // one that is closed is not open any more
        Texts.good("((a,b),".repeat(2) + "(a,".repeat(19) + "b" + ")".repeat(21) + ";", 24);
        Texts.bad("((a,b)," + "(".repeat(22) + "a,b),(", 1, 35);
        Texts.bad("((a,b)," + "(".repeat(23), 2, 29);
        // no ( can stand there, however many are open
        Texts.bad("(".repeat(23) + "a(", 1, 24);
        Texts.bad("(".repeat(23) + "a,b(", 1, 26);
    }

    private static void writtenWithoutBlanks() {
        form("  l  ;  ", "l;");
        form(" ( a , ( b , c ) ) ; ", "((b,c),a);");
        form("a;" + " ".repeat(398), "a;");
    }

    private static void lesserAhead() {
        ahead("a", "l");
        ahead("(k,l)", "a");
        // ) is a lesser byte than ,
        ahead("(a,b)", "(a,b,c)");
        ahead("(a,b,c)", "(a,c)");
        ahead("((a,b),e)", "((a,b,c),d)");
        ahead("(a,l)", "(b,c)");
        // ( is a lesser byte than a letter
        ahead("((k,l),a)", "(a,b)");
        ahead("((a,b),(a,b))", "((a,b),a)");
        // children in order before their parents are put in order
        form("((l,b),(k,a));", "((a,k),(b,l));");
        form("((d,(c,b)),(c,(d,b)));", "(((b,c),d),((b,d),c));");
        form("((c,(d,b)),(d,(c,b)));", "(((b,c),d),((b,d),c));");
        // equal ones stay together
        form("(a,(a,b),a,(b,a));", "((a,b),(a,b),a,a);");
        ahead("(a,b)", "(a,b)");
        // two of one beginning that part at the last letter
        String deep = "(".repeat(9) + "a,a)" + ",a)".repeat(8);
        ahead("(" + deep + ",b)", "(" + deep + ",c)");
    }

    // ---- the tape

    private static void highestByteFirst() {
        LineageBench x = new LineageBench();
        int first = '(' << 24 | 'a' << 16 | ',' << 8 | 'b';
        int second = ',' << 24 | 'c' << 16 | ',' << 8 | 'd';
        int third = ',' << 24 | 'e' << 16 | ',' << 8 | 'f';
        int fourth = ',' << 24 | 'g' << 16 | ',' << 8 | 'h';
        Check.due("feed", x.feed(first, second, third, fourth, ')' << 24 | ';' << 16 | 0x2020), 20);
        Check.due("read", x.read(0), 8);
        Check.due("feed behind a tape", x.feed('a' << 24 | ';' << 16, 0, 0, 0, 0), 20);
        x.end(2);
        Check.due("feed behind two bytes", x.feed(0x20202020, 0x20202020, 0x20202020, 0x20202020, 0x20202020), 22);
        Check.due("read", x.read(0), 1);
        x.feed(0x80 << 24, 0, 0, 0, 0);
        Check.badArgument("a byte above 127", () -> x.read(0));
        Check.due("its place", x.fault(1), 0);
        x.feed(0x6100006c, 0, 0, 0, 0);
        x.end(2);
        Check.badArgument("the second byte", () -> x.read(0));
        Check.due("its place", x.fault(1), 1);
    }

    private static void feedBeyond400() {
        LineageBench x = Benches.withFullTape();
        Check.due("on 400", x.feed(0, 0, 0, 0, 0), -1);
        x.end(381);
        Check.due("on 381", x.feed(0, 0, 0, 0, 0), -1);
        Check.due("none came", x.count(4), 381);
        x.end(380);
        int end = 'c' << 24 | ';' << 16 | 0x2020;
        Check.due("on 380", x.feed(0x20202020, 0x20202020, 0x20202020, 0x20202020, end), 400);
        Check.due("read of all 400", x.read(0), 1);
        Check.due("on 0", x.feed(0, 0, 0, 0, 0), 20);
    }

    private static void firstBytesAlone() {
        LineageBench x = new LineageBench();
        Check.due("end(0) of an empty tape", x.end(0), true);
        Texts.lay(x, "(a,b);(c,d);");
        Check.due("end of all", x.end(12), true);
        Check.due("bytes of all", x.count(4), 12);
        Check.due("end(6)", x.end(6), true);
        Check.due("bytes", x.count(4), 6);
        Check.due("read", x.read(0), 2);
        Check.due("set", x.look(0, 2), 3);
        Texts.lay(x, "(a,b);");
        Check.due("end(0)", x.end(0), true);
        Check.due("bytes", x.count(4), 0);
        LineageBench y = Benches.withFullTape();
        Check.due("end(400)", y.end(400), true);
        Check.due("bytes", y.count(4), 400);
        Check.due("end(399)", y.end(399), true);
        Check.due("bytes", y.count(4), 399);
    }

    private static void endOfFewer() {
        LineageBench x = new LineageBench();
        Check.due("end(1) of an empty tape", x.end(1), false);
        Texts.lay(x, "(a,b);");
        Check.due("end(7) of 6", x.end(7), false);
        Check.due("end of the most", x.end(Integer.MAX_VALUE), false);
        Check.due("bytes still", x.count(4), 6);
        Check.due("read still", x.read(0), 2);
        LineageBench y = Benches.withFullTape();
        Check.due("end(401)", y.end(401), false);
        Check.due("bytes still", y.count(4), 400);
        // what was cut off does not come again
        y.end(3);
        Check.due("end(4) behind end(3)", y.end(4), false);
    }

    private static void endBelow0() {
        LineageBench x = new LineageBench();
        Check.due("end(-1) of an empty tape", x.end(-1), false);
        Texts.lay(x, "(a,b);");
        Check.due("end(-1)", x.end(-1), false);
        Check.due("end of the least", x.end(Integer.MIN_VALUE), false);
        Check.due("bytes still", x.count(4), 6);
        Check.due("read still", x.read(0), 2);
    }

    private static void againBehindTape() {
        LineageBench x = new LineageBench();
        Check.due("nothing was written", x.again(), 0);
        Texts.lay(x, "(b,a);");
        Check.due("nothing behind a tape", x.again(), 6);
        x.read(0);
        x.write(0);
        Check.due("once", x.again(), 6);
        Check.due("twice", x.again(), 12);
        x.end(6);
        x.read(1);
        Check.due("form", Texts.written(x, 1), "(a,b);");
        Texts.lay(x, "(c,");
        x.again();
        x.end(8);
        Check.badArgument("behind three bytes", () -> x.read(1));
        Check.due("more must come", x.fault(1), 8);
        Check.due("nothing on a full tape", Benches.withFullTape().again(), 400);
    }

    private static void againBeyond400() {
        LineageBench x = Benches.withTrees(chain(23));
        Check.due("write", x.write(0), 94);
        Texts.lay(x, " ".repeat(307));
        Check.due("94 on 307", x.again(), -1);
        Check.due("none came", x.count(4), 307);
        x.end(306);
        Check.due("94 on 306", x.again(), 400);
        Check.due("94 on 400", x.again(), -1);
        Check.due("read of all 400", x.read(1), 24);
        Check.due("form", Texts.written(x, 1), Texts.written(x, 0));
    }

    // ---- reading

    private static void usedUp() {
        LineageBench x = new LineageBench();
        Texts.read(x, 0, "(a,b);");
        Check.due("behind a tree", x.count(4), 0);
        Texts.lay(x, "(a,b");
        Check.badArgument("a fault", () -> x.read(0));
        Check.due("behind a fault", x.count(4), 0);
        Texts.lay(x, "(a,b);");
        Check.noIndex("no shelf", () -> x.read(8));
        Check.due("behind no shelf", x.count(4), 0);
        Check.badArgument("nothing is left", () -> x.read(0));
        Check.due("its place", x.fault(1), 0);
    }

    private static void readLeaves() {
        Texts.good("a;", 1);
        Texts.good("(a,a);", 2);
        Texts.good(star(24), 24);
        LineageBench x = new LineageBench();
        Check.due("to shelf 7", Texts.read(x, 7, "(a,b,c);"), 3);
        Check.due("shelves", x.count(0), 128);
        Check.due("in its place", Texts.read(x, 7, "d;"), 1);
        Check.due("form", Texts.written(x, 7), "d;");
    }

    private static void readToNoShelf() {
        for (int shelf : Benches.NO_SHELVES) {
            LineageBench x = new LineageBench();
            Texts.lay(x, "(a,b);");
            Check.noIndex("a tree to shelf " + shelf, () -> x.read(shelf));
            Check.due("shelves", x.count(0), 0);
            Texts.lay(x, "(a");
            Check.noIndex("a fault to shelf " + shelf, () -> x.read(shelf));
            Check.noIndex("an empty tape to shelf " + shelf, () -> x.read(shelf));
        }
    }

    private static void readFault() {
        LineageBench x = Benches.withTrees("(a,b);");
        x.write(0);
        for (String text : new String[] {"", "?", "(a", star(25), "(".repeat(24)}) {
            Texts.lay(x, text);
            Check.badArgument("read of " + text, () -> x.read(0));
            Texts.lay(x, text);
            Check.badArgument("read of " + text, () -> x.read(1));
        }
        Check.due("shelves", x.count(0), 1);
        Check.due("what was written last", x.count(5), 6);
        Check.due("what was there", Texts.written(x, 0), "(a,b);");
    }

    private static void latestRead() {
        LineageBench x = new LineageBench();
        Texts.lay(x, "(a?");
        Check.noIndex("a fault to no shelf", () -> x.read(8));
        Check.due("no read yet", x.fault(0), 0);
        Check.due("no place yet", x.fault(1), -1);
        Texts.lay(x, "(".repeat(24));
        Check.badArgument("a fault", () -> x.read(0));
        Texts.lay(x, "a;");
        Check.noIndex("a tree to no shelf", () -> x.read(-1));
        Check.due("of the latest that counts", x.fault(0), 2);
        Check.due("its place", x.fault(1), 23);
        Texts.read(x, 0, "a;");
        Check.due("of a later one", x.fault(0), 0);
        Check.due("its place", x.fault(1), -1);
        Texts.lay(x, "?");
        Check.noIndex("a fault to no shelf", () -> x.read(8));
        Check.due("of the latest that counts", x.fault(0), 0);
    }

    private static void faultWithoutOne() {
        LineageBench x = new LineageBench();
        Check.due("ahead of any", x.fault(0), 0);
        Texts.read(x, 0, "a;");
        Check.due("without one", x.fault(0), 0);
        Texts.lay(x, "");
        Check.badArgument("a fault", () -> x.read(0));
        Check.due("with one", x.fault(0), 1);
        Check.due("asked once more", x.fault(0), 1);
        Texts.lay(x, star(25));
        Check.badArgument("a fault", () -> x.read(0));
        Check.due("with another one", x.fault(0), 2);
    }

    private static void placeWithoutOne() {
        LineageBench x = new LineageBench();
        Check.due("ahead of any", x.fault(1), -1);
        Texts.read(x, 0, "a;");
        Check.due("without one", x.fault(1), -1);
        Texts.lay(x, "?");
        Check.badArgument("a fault", () -> x.read(0));
        Check.due("at the first byte", x.fault(1), 0);
        Texts.lay(x, " ".repeat(399) + "?");
        Check.badArgument("a fault", () -> x.read(0));
        Check.due("at the last byte", x.fault(1), 399);
        Texts.lay(x, " ".repeat(400));
        Check.badArgument("a fault", () -> x.read(0));
        Check.due("behind the last byte", x.fault(1), 400);
    }

    private static void anotherWhatOfFault() {
        LineageBench x = new LineageBench();
        for (int round = 0; round < 2; round++) {
            for (int what : new int[] {-1, 2, 3, Integer.MIN_VALUE, Integer.MAX_VALUE}) {
                Check.due("fault(" + what + ")", x.fault(what), -1);
            }
            Texts.lay(x, "?");
            Check.badArgument("a fault", () -> x.read(0));
        }
    }

    // ---- what was written

    private static void shortestAndLongest() {
        LineageBench x = Benches.withTrees("a;", chain(23), star(24));
        Check.due("the shortest", x.write(0), 2);
        Check.due("the longest", x.write(1), 94);
        Check.due("the widest", x.write(2), 50);
        Check.badState("none", () -> x.write(3));
        Check.noIndex("no shelf", () -> x.write(8));
        Check.due("what was written last", x.count(5), 50);
    }

    private static void firstAndLastByte() {
        LineageBench x = Benches.withTrees(chain(23), "(k,l);");
        x.write(0);
        Check.due("the first of 94", x.written(0), '(');
        Check.due("the last of 94", x.written(93), ';');
        x.write(1);
        int[] bytes = {'(', 'k', ',', 'l', ')', ';'};
        for (int i = 0; i < bytes.length; i++) {
            Check.due("written(" + i + ")", x.written(i), bytes[i]);
        }
        x.clear(1);
        Texts.read(x, 0, "a;");
        Check.due("it stays till the next write", x.written(3), 'l');
    }

    private static void noSuchByte() {
        LineageBench x = new LineageBench();
        int[] none = {-1, 0, 1, 93, 94, 400, Integer.MIN_VALUE, Integer.MAX_VALUE};
        for (int i : none) {
            Check.due("nothing was written: written(" + i + ")", x.written(i), -1);
        }
        Texts.read(x, 0, chain(23));
        x.write(0);
        Check.due("behind the longest", x.written(94), -1);
        Texts.read(x, 0, "a;");
        x.write(0);
        Check.due("behind a short one", x.written(2), -1);
        for (int i : none) {
            Check.due("written(" + i + ")", x.written(i), i == 0 ? 'a' : i == 1 ? ';' : -1);
        }
    }
}
