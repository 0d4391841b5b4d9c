/** Counts and prints what is not as due, and ends a test with exit code 1 if there was any such. */
final class Check {
    /** A call whose exception, or having none, is to be looked at. */
    interface Call {
        void run();
    }

    private static int wrong = 0;
    private static int checked = 0;
    /** What the checks are about just now; it stands ahead of what is printed. */
    private static String about = "";

    private Check() {
    }

    static void about(String words) {
        about = words;
    }

    static int checked() {
        return checked;
    }

    static void due(String what, long got, long want) {
        checked++;
        if (got != want) {
            wrong++;
            System.out.println(about + what + " answered " + got + ", due is " + want);
        }
    }

    static void due(String what, boolean got, boolean want) {
        due(what, got ? 1 : 0, want ? 1 : 0);
    }

    static void due(String what, String got, String want) {
        checked++;
        if (!got.equals(want)) {
            wrong++;
            System.out.println(about + what + " answered " + got + ", due is " + want);
        }
    }

    /** The very class, not one below it: what the machine throws is often a class below. */
    static void thrown(String what, Class<?> want, Call call) {
        Class<?> got = null;
        try {
            call.run();
        } catch (RuntimeException e) {
            got = e.getClass();
        }
        due(what, String.valueOf(got), String.valueOf(want));
    }

    static void noIndex(String what, Call call) {
        thrown(what, IndexOutOfBoundsException.class, call);
    }

    static void badState(String what, Call call) {
        thrown(what, IllegalStateException.class, call);
    }

    static void badArgument(String what, Call call) {
        thrown(what, IllegalArgumentException.class, call);
    }

    static void noSuch(String what, Call call) {
        thrown(what, java.util.NoSuchElementException.class, call);
    }

    static void noMore(String what, Call call) {
        thrown(what, UnsupportedOperationException.class, call);
    }

    static void close() {
        if (checked == 0) {
            System.out.println("nothing was checked");
        }
        if (wrong != 0) {
            System.out.println(wrong + " of " + checked + " answers are not as due");
        }
        if (wrong != 0 || checked == 0) {
            System.exit(1);
        }
    }
}
