/** Moves texts to and from a bench by its own calls. */
final class Texts {
    private Texts() {
    }

    /** The tape must be empty. */
    static void lay(LineageBench x, String text) {
        int[] numbers = numbersOf(text);
        for (int i = 0; i < numbers.length; i += 5) {
            x.feed(numbers[i], numbers[i + 1], numbers[i + 2], numbers[i + 3], numbers[i + 4]);
        }
        x.end(text.length());
    }

    static int[] numbersOf(String text) {
        int feeds = (text.length() + 19) / 20;
        int[] numbers = new int[feeds * 5];
        for (int i = 0; i < text.length(); i++) {
            numbers[i / 4] |= (text.charAt(i) & 255) << 8 * (3 - i % 4);
        }
        return numbers;
    }

    static int read(LineageBench x, int shelf, String text) {
        lay(x, text);
        return x.read(shelf);
    }

    /** A text that is read. */
    static void good(String text, int leaves) {
        LineageBench x = new LineageBench();
        Check.due("read of " + text, read(x, 0, text), leaves);
        Check.due("fault(0) of " + text, x.fault(0), 0);
        Check.due("fault(1) of " + text, x.fault(1), -1);
        Check.due("fault(2) of " + text, x.fault(2), -1);
        Check.due("fault(-1) of " + text, x.fault(-1), -1);
        Check.due("shelves of " + text, x.count(0), 1);
    }

    /** A text with a fault; nothing comes of it, and the tape is used up. */
    static void bad(String text, int fault, int place) {
        LineageBench x = new LineageBench();
        lay(x, text);
        Check.badArgument("read of " + text, () -> x.read(0));
        Check.due("fault(0) of " + text, x.fault(0), fault);
        Check.due("fault(1) of " + text, x.fault(1), place);
        Check.due("fault(2) of " + text, x.fault(2), -1);
        Check.due("tape behind " + text, x.count(4), 0);
        Check.due("shelves of " + text, x.count(0), 0);
    }

    static String written(LineageBench x, int shelf) {
        int length = x.write(shelf);
        StringBuilder text = new StringBuilder();
        for (int i = 0; i < length; i++) {
            text.append((char) x.written(i));
        }
        return text.toString();
    }

    /** Kinds as letters, told as bits. */
    static int set(String letters) {
        int set = 0;
        for (int i = 0; i < letters.length(); i++) {
            set |= 1 << letters.charAt(i) - 'a';
        }
        return set;
    }
}
