/** Benches that have something already. */
final class Benches {
    /** The nearest on both sides, the farthest, and one that a shift would take for 0. */
    static final int[] NO_SHELVES = {-1, 8, 32, Integer.MIN_VALUE, Integer.MAX_VALUE};
    static final int[] NO_KINDS = {-1, 12, 32, Integer.MIN_VALUE, Integer.MAX_VALUE};

    private Benches() {
    }

    /** The trees on shelves 0, 1, and so on; a shelf whose text is empty has none. */
    static LineageBench withTrees(String... texts) {
        LineageBench x = new LineageBench();
        for (int s = 0; s < texts.length; s++) {
            if (!texts[s].isEmpty()) {
                Texts.read(x, s, texts[s]);
            }
        }
        return x;
    }

    static LineageBench withTriples(String... triples) {
        LineageBench x = new LineageBench();
        addTriples(x, triples);
        return x;
    }

    static void addTriples(LineageBench x, String... triples) {
        for (String t : triples) {
            x.triple(t.charAt(0) - 'a', t.charAt(1) - 'a', t.charAt(2) - 'a');
        }
    }

    static LineageBench withSigns(String... sets) {
        LineageBench x = new LineageBench();
        for (String set : sets) {
            x.sign(Texts.set(set));
        }
        return x;
    }

    /** The distances of 0 to 1, 0 to 2, 1 to 2, 0 to 3, and so on. */
    static LineageBench withDistances(int n, int... distances) {
        LineageBench x = new LineageBench();
        x.kinds(n);
        int at = 0;
        for (int b = 1; b < n; b++) {
            for (int a = 0; a < b; a++) {
                x.distance(a, b, distances[at]);
                at++;
            }
        }
        return x;
    }

    /** Of a tree whose kinds have these states, from a on. */
    static int changesOf(String tree, String states) {
        LineageBench x = withTrees(tree);
        for (int k = 0; k < states.length(); k++) {
            x.state(7, k, states.charAt(k) - '0');
        }
        return x.changes(0, 7);
    }

    /** A full tape of blanks. */
    static LineageBench withFullTape() {
        LineageBench x = new LineageBench();
        Texts.lay(x, " ".repeat(400));
        return x;
    }
}
