/** Objects and texts that several tests want. */
final class Solvers {
    /** Arguments far out of every range; a test adds those next to the range it is about. */
    static final int MIN = Integer.MIN_VALUE;
    static final int MAX = Integer.MAX_VALUE;

    private Solvers() {
    }

    /** Puts a text in place of what is there. */
    static void type(WordSolver x, String text) {
        x.clearText();
        for (int i = 0; i < text.length(); i++) {
            x.append(text.charAt(i));
        }
    }

    static WordSolver typed(String text) {
        WordSolver x = new WordSolver();
        type(x, text);
        return x;
    }

    /** A call for each character, and one more if the text is not full. */
    static String textOf(WordSolver x) {
        StringBuilder all = new StringBuilder();
        for (int i = 0; i < 120; i++) {
            int c = x.character(i);
            if (c == WordSolver.NONE) {
                break;
            }
            all.append((char) c);
        }
        return all.toString();
    }

    static int read(WordSolver x, String text) {
        type(x, text);
        return x.read();
    }

    /** The given number of nodes: variable 0 of the width 1, variable 1 of the width 4, then constants of 8 bits. */
    static WordSolver withNodes(int count) {
        WordSolver x = new WordSolver();
        x.variable(1);
        x.variable(4);
        for (int k = 2; k < count; k++) {
            x.constant(8, k);
        }
        return x;
    }

    /** Makes the constraint that never holds: no model is left. */
    static void spoil(WordSolver x) {
        x.require(x.constant(1, 0));
    }

    /** All that can be asked for without undo: hash of the state, the number of saved states among it, and the text. */
    static String face(WordSolver x) {
        return x.digest() + " \"" + textOf(x) + "\"";
    }

    /** The hashes of the state and of all saved states behind it; the object is worn out then. */
    static String past(WordSolver x) {
        StringBuilder all = new StringBuilder(face(x));
        while (!Check.outcome(x::undo).startsWith("throws")) {
            all.append(' ').append(x.digest());
        }
        return all.toString();
    }

    /** The document's rule, told with the methods of the face; levels, wishes and saved states are told by the test. */
    static long digestBy(WordSolver x, int level, int[][] wishes, int length, int saved) {
        int nodes = x.nodes();
        long h = 31 * 1862 + nodes;
        for (int node = 0; node < nodes; node++) {
            for (int what = 0; what <= 8; what++) {
                h = 31 * h + x.info(node, what);
            }
            h = 31 * h + x.value(node, false);
        }
        for (int node = 0; node < nodes; node++) {
            if (x.info(node, 0) == 1) {
                h = 31 * h + x.value(node, false);
            }
        }
        h = 31 * h + x.constraints();
        for (int k = 0; k < x.constraints(); k++) {
            h = 31 * (31 * h + x.constraint(k, false)) + x.constraint(k, true);
        }
        h = 31 * h + level;
        h = 31 * h + wishes.length;
        for (int[] wish : wishes) {
            h = 31 * (31 * h + wish[0]) + wish[1];
        }
        h = 31 * h + (x.satisfiable() ? 1 : 0);
        for (int v = 0; v < x.variables(); v++) {
            h = 31 * h + x.witness(v);
        }
        h = 31 * h + length;
        return 31 * h + saved;
    }
}
