/** The values of all nodes with two operands of the same width, for all widths and all words. */
public final class OperationsTest {
    /** An object is good for 512 calls; a pair of words takes 2 inputs, the number of nodes and the values of 17. */
    private static final int PAIRS = 24;

    private static int signed(int word, int width) {
        return word << (32 - width) >> (32 - width);
    }

    private static int expected(int kind, int width, int a, int b) {
        int full = (1 << width) - 1;
        int sa = signed(a, width);
        int sb = signed(b, width);
        switch (kind) {
            case 2:
                return a + b & full;
            case 3:
                return a - b & full;
            case 4:
                return a * b & full;
            case 5:
                return a & b;
            case 6:
                return a | b;
            case 7:
                return a ^ b;
            case 8:
                return b >= width ? 0 : a << b & full;
            case 9:
                return b >= width ? 0 : a >> b;
            case 10:
                return sa >> Math.min(b, 31) & full;
            case 11:
                return b == 0 ? full : a / b;
            case 12:
                return b == 0 ? a : a % b;
            case 13:
                return a == b ? 1 : 0;
            case 14:
                return a < b ? 1 : 0;
            case 15:
                return a <= b ? 1 : 0;
            case 16:
                return sa < sb ? 1 : 0;
            case 17:
                return sa <= sb ? 1 : 0;
            default:
                return a << width | b;
        }
    }

    private static WordSolver withAllKinds(int width) {
        WordSolver x = new WordSolver();
        x.variable(width);
        x.variable(width);
        for (int kind = 2; kind <= (width <= 4 ? 18 : 17); kind++) {
            x.binary(kind, 0, 1);
        }
        return x;
    }

    private static boolean good(WordSolver x, int width, int a, int b) {
        x.input(0, a);
        x.input(1, b);
        int nodes = x.nodes();
        for (int node = 2; node < nodes; node++) {
            if (x.value(node, false) != expected(node, width, a, b)) {
                System.out.println("kind " + node + " of " + a + " and " + b + " in " + width + " bits is "
                        + x.value(node, false));
                return false;
            }
        }
        return true;
    }

    /** Each word of a with each word of b, some pairs by each object. */
    private static boolean allPairs(int width) {
        WordSolver x = withAllKinds(width);
        boolean good = true;
        for (int pair = 0; pair < 1 << 2 * width; pair++) {
            if (pair % PAIRS == 0) {
                x = withAllKinds(width);
            }
            good &= good(x, width, pair >> width, pair & (1 << width) - 1);
        }
        return good;
    }

    public static void main(String[] args) {
        Check check = new Check();
        for (int width = 1; width <= 8; width++) {
            check.due("all words of " + width + " bits", true, allPairs(width));
        }
        check.close("operations");
    }
}
