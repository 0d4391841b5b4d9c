/** Moves texts to and from a bench by its own calls. */
final class Texts {
    private Texts() {
    }

    // README.md shows lay, four, read and written; ReadmeTest looks whether they are the same there

    /** The tape must be empty. */
    static void lay(LineageBench x, String text) {
        for (int i = 0; i < text.length(); i += 20) {
            x.feed(four(text, i), four(text, i + 4), four(text, i + 8), four(text, i + 12), four(text, i + 16));
        }
        x.end(text.length());
    }

    static int four(String text, int from) {
        int number = 0;
        for (int i = from; i < from + 4; i++) {
            number = number << 8 | (i < text.length() ? text.charAt(i) & 255 : 0);
        }
        return number;
    }

    static int read(LineageBench x, int shelf, String text) {
        lay(x, text);
        return x.read(shelf);
    }

    /** A text that is read. */
    static void good(String text, int leaves) {
        LineageBench x = new LineageBench();
        Check.due("read of " + text, read(x, 0, text), leaves);
        Check.due("fault(0) of " + text, x.fault(0), 0);
        Check.due("fault(1) of " + text, x.fault(1), -1);
        Check.due("fault(2) of " + text, x.fault(2), -1);
        Check.due("fault(-1) of " + text, x.fault(-1), -1);
        Check.due("shelves of " + text, x.count(0), 1);
    }

    /** A text with a fault; nothing comes of it, and the tape is used up. */
    static void bad(String text, int fault, int place) {
        LineageBench x = new LineageBench();
        lay(x, text);
        Check.badArgument("read of " + text, () -> x.read(0));
        Check.due("fault(0) of " + text, x.fault(0), fault);
        Check.due("fault(1) of " + text, x.fault(1), place);
        Check.due("fault(2) of " + text, x.fault(2), -1);
        Check.due("tape behind " + text, x.count(4), 0);
        Check.due("shelves of " + text, x.count(0), 0);
    }

    static String written(LineageBench x, int shelf) {
        int length = x.write(shelf);
        StringBuilder text = new StringBuilder();
        for (int i = 0; i < length; i++) {
            text.append((char) x.written(i));
        }
        return text.toString();
    }

    /** Kinds as letters, told as bits. */
    static int set(String letters) {
        int set = 0;
        for (int i = 0; i < letters.length(); i++) {
            set |= 1 << letters.charAt(i) - 'a';
        }
        return set;
    }
}
