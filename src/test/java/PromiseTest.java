/** For each promise of the document what it says, its edges and wrong inputs; the dues were counted by hand. */
public final class PromiseTest {
    private static final int MIN = Solvers.MIN;
    private static final int MAX = Solvers.MAX;
    private static final Check CHECK = new Check();

    private static void due(String what, long want, long got) {
        CHECK.due(what, want, got);
    }

    private static void due(String what, boolean want, boolean got) {
        CHECK.due(what, want, got);
    }

    private static void dueIndex(String what, Check.Call call) {
        CHECK.indexThrown(what, call);
    }

    private static void dueArgument(String what, Check.Call call) {
        CHECK.argumentThrown(what, call);
    }

    private static void dueState(String what, Check.Call call) {
        CHECK.stateThrown(what, call);
    }

    /** An object with full room for nodes: variable 0 of the width 8, then the constants 0:8 to 38:8. */
    private static WordSolver full() {
        WordSolver x = new WordSolver();
        x.variable(8);
        for (int k = 0; k < 39; k++) {
            x.constant(8, k);
        }
        return x;
    }

    private static int saved(WordSolver x) {
        int count = 0;
        while (Check.outcome(x::undo).indexOf("throws") < 0) {
            count++;
        }
        return count;
    }

    private static void promise1NewObject() {
        WordSolver x = new WordSolver();
        due("1: nodes", 0, x.nodes());
        due("1: variables", 0, x.variables());
        due("1: constraints", 0, x.constraints());
        due("1: one assignment is a model", 1, x.models(200));
        due("1: no wishes", 0, x.gain());
        due("1: no character", -1, x.character(0));
        due("1: empty text", 0, x.clearText());
        dueState("1: no level but 0", x::pop);
        dueState("1: no saved state", x::undo);
        due("1: NONE", -1, WordSolver.NONE);
        WordSolver y = new WordSolver();
        x.variable(3);
        x.append('v');
        due("1: objects do not share nodes", 0, y.nodes());
        due("1: objects do not share texts", -1, y.character(0));
    }

    private static void promise2Variable() {
        WordSolver x = new WordSolver();
        due("2: first", 0, x.variable(1));
        due("2: second is another node", 1, x.variable(1));
        due("2: number", 1, x.info(1, 5));
        due("2: kind", 1, x.info(1, 0));
        due("2: width", 1, x.info(1, 1));
        due("2: count", 2, x.variables());
        for (int width : new int[] {0, -1, 9, MIN, MAX}) {
            dueArgument("2: width " + width, () -> x.variable(width));
        }
        due("2: widest", 2, x.variable(8));
        dueState("2: 1 + 1 + 8 + 7 bits are too many", () -> x.variable(7));
        due("2: 16 bits", 3, x.variable(6));
        dueState("2: four variables", () -> x.variable(1));
        dueArgument("2: the width is looked at first", () -> x.variable(9));
        due("2: undoable, and what threw saved nothing", 3, x.undo());
        due("2: undone", 3, x.variables());
        WordSolver four = new WordSolver();
        for (int k = 0; k < 4; k++) {
            four.variable(2);
        }
        dueState("2: a fifth variable, with bits left", () -> four.variable(1));
        dueState("2: 40 nodes", () -> full().variable(1));
        WordSolver last = full();
        last.undo();
        due("2: the 40th node", 39, last.variable(8));
        WordSolver again = new WordSolver();
        again.variable(3);
        again.input(0, 5);
        again.undo();
        again.undo();
        again.variable(3);
        due("2: a new variable has the input 0", 0, again.value(0, false));
        again.undo();
        due("2: the first one undone", 0, again.variables());
        dueIndex("2: no variable", () -> again.witness(0));
    }

    private static void promise3Constant() {
        WordSolver x = new WordSolver();
        due("3: first", 0, x.constant(8, 255));
        due("3: another width", 1, x.constant(4, 15));
        due("3: another value", 2, x.constant(4, 0));
        due("3: made already", 0, x.constant(8, 255));
        due("3: value", 255, x.info(0, 5));
        due("3: kind", 0, x.info(0, 0));
        due("3: width", 4, x.info(1, 1));
        due("3: same value, other width", 3, x.constant(5, 15));
        for (int width = 1; width <= 8; width++) {
            int w = width;
            dueArgument("3: 2^" + w, () -> x.constant(w, 1 << w));
            due("3: 2^" + w + " - 1", (1 << w) - 1, x.info(x.constant(w, (1 << w) - 1), 5));
            dueArgument("3: -1", () -> x.constant(w, -1));
        }
        for (int width : new int[] {0, -1, 9, 32, MIN, MAX}) {
            dueArgument("3: width " + width, () -> x.constant(width, 0));
        }
        dueArgument("3: greatest value", () -> x.constant(8, MAX));
        dueArgument("3: least value", () -> x.constant(8, MIN));
        WordSolver f = full();
        due("3: a full object still has its nodes", 39, f.constant(8, 38));
        dueState("3: 40 nodes", () -> f.constant(8, 39));
        due("3: undoable, also if nothing changes", 4, f.undo());
        due("3: nothing changed", 40, f.nodes());
        due("3: next undo", 3, f.undo());
        due("3: a node fewer", 39, f.nodes());
    }

    /** The value of a binary node with constants as operands. */
    private static int calculated(int kind, int width, int a, int b) {
        WordSolver x = new WordSolver();
        int first = x.constant(width, a);
        int second = x.constant(width, b);
        return x.value(x.binary(kind, first, second), false);
    }

    private static void promise4Binary() {
        int[][] rows = {
            {2, 4, 9, 8, 1}, {2, 8, 255, 255, 254}, {2, 1, 1, 1, 0}, {2, 8, 100, 27, 127},
            {3, 4, 3, 5, 14}, {3, 8, 0, 1, 255}, {3, 8, 200, 77, 123}, {3, 1, 0, 1, 1},
            {4, 4, 7, 7, 1}, {4, 8, 255, 255, 1}, {4, 8, 13, 11, 143}, {4, 8, 129, 2, 2}, {4, 1, 1, 1, 1},
            {5, 4, 12, 10, 8}, {6, 4, 12, 10, 14}, {7, 4, 12, 10, 6}, {5, 8, 255, 170, 170}, {6, 8, 85, 170, 255},
            {8, 4, 3, 2, 12}, {8, 4, 3, 3, 8}, {8, 4, 3, 4, 0}, {8, 4, 3, 5, 0}, {8, 8, 1, 7, 128}, {8, 8, 255, 8, 0},
            {8, 8, 255, 255, 0}, {8, 8, 5, 0, 5}, {8, 3, 1, 2, 4}, {8, 3, 7, 3, 0}, {8, 1, 1, 1, 0}, {8, 1, 1, 0, 1},
            {9, 4, 12, 2, 3}, {9, 4, 12, 4, 0}, {9, 8, 255, 7, 1}, {9, 8, 255, 8, 0}, {9, 8, 200, 128, 0},
            {9, 5, 31, 4, 1}, {9, 5, 31, 6, 0}, {9, 1, 1, 1, 0},
            {10, 4, 12, 1, 14}, {10, 4, 12, 4, 15}, {10, 4, 4, 1, 2}, {10, 4, 4, 4, 0}, {10, 8, 128, 7, 255},
            {10, 8, 128, 255, 255}, {10, 8, 127, 255, 0}, {10, 8, 128, 0, 128}, {10, 1, 1, 1, 1}, {10, 3, 4, 5, 7},
            {11, 4, 13, 4, 3}, {11, 4, 13, 0, 15}, {11, 8, 255, 16, 15}, {11, 8, 254, 255, 0}, {11, 8, 0, 0, 255},
            {11, 8, 255, 1, 255}, {11, 8, 200, 129, 1}, {11, 1, 0, 0, 1}, {11, 8, 255, 255, 1},
            {11, 8, 100, 3, 33}, {11, 8, 77, 1, 77}, {11, 8, 64, 5, 12}, {11, 3, 5, 2, 2}, {12, 8, 100, 3, 1},
            {12, 8, 77, 1, 0}, {12, 8, 64, 5, 4}, {12, 3, 5, 2, 1}, {12, 4, 13, 4, 1}, {12, 4, 13, 0, 13}, {12, 8, 255, 16, 15}, {12, 8, 254, 255, 254}, {12, 8, 0, 0, 0},
            {12, 8, 255, 1, 0}, {12, 8, 200, 129, 71}, {12, 8, 255, 128, 127}, {12, 1, 1, 0, 1},
            {13, 4, 9, 9, 1}, {13, 4, 9, 1, 0}, {13, 8, 0, 128, 0},
            {14, 4, 3, 9, 1}, {14, 4, 9, 3, 0}, {14, 4, 9, 9, 0}, {14, 8, 127, 128, 1}, {14, 1, 0, 1, 1},
            {15, 4, 3, 9, 1}, {15, 4, 9, 3, 0}, {15, 4, 9, 9, 1}, {15, 8, 128, 127, 0},
            {16, 4, 3, 9, 0}, {16, 4, 9, 3, 1}, {16, 4, 9, 9, 0}, {16, 8, 128, 127, 1}, {16, 4, 9, 10, 1},
            {16, 1, 1, 0, 1}, {16, 1, 0, 1, 0},
            {17, 4, 3, 9, 0}, {17, 4, 9, 3, 1}, {17, 4, 9, 9, 1}, {17, 8, 127, 128, 0}, {17, 4, 10, 9, 0},
            {18, 4, 3, 9, 57}, {18, 1, 1, 0, 2}, {18, 3, 7, 0, 56},
        };
        for (int[] row : rows) {
            due("4: kind " + row[0] + " of " + row[2] + " and " + row[3] + " in " + row[1] + " bits", row[4],
                    calculated(row[0], row[1], row[2], row[3]));
        }
        WordSolver x = new WordSolver();
        int a = x.variable(5);
        int b = x.variable(3);
        for (int kind = 2; kind <= 17; kind++) {
            int k = kind;
            dueState("4: different widths, kind " + k, () -> x.binary(k, a, b));
            due("4: width of kind " + k, k < 13 ? 5 : 1, x.info(x.binary(k, a, a), 1));
        }
        int joined = x.binary(18, a, b);
        due("4: joined width", 8, x.info(joined, 1));
        due("4: kind", 18, x.info(joined, 0));
        due("4: first operand", a, x.info(joined, 2));
        due("4: second operand", b, x.info(joined, 3));
        due("4: no third operand", -1, x.info(joined, 4));
        x.input(0, 17);
        x.input(1, 6);
        due("4: first operand in the higher bits", 17 * 8 + 6, x.value(joined, false));
        due("4: made already", joined, x.binary(18, a, b));
        due("4: exchanged operands are another node", joined + 1, x.binary(18, b, a));
        due("4: exchanged operands of a sum, too", joined + 3, x.binary(2, b, x.slice(joined, 2, 0)));
        dueState("4: 5 + 5 bits", () -> x.binary(18, a, a));
        for (int kind : new int[] {-1, 0, 1, 19, 24, MIN, MAX}) {
            dueArgument("4: kind " + kind, () -> x.binary(kind, a, a));
            dueArgument("4: the kind is looked at first, " + kind, () -> x.binary(kind, -1, 99));
        }
        for (int node : new int[] {-1, x.nodes(), 40, MIN, MAX}) {
            dueIndex("4: first node " + node, () -> x.binary(2, node, a));
            dueIndex("4: second node " + node, () -> x.binary(2, a, node));
        }
        WordSolver f = full();
        dueState("4: 40 nodes", () -> f.binary(2, 0, 0));
        f.undo();
        due("4: the 40th node", 39, f.binary(2, 0, 0));
        due("4: made already in a full object", 39, f.binary(2, 0, 0));
        due("4: undoable", 4, f.undo());
    }

    private static void promise5Unary() {
        WordSolver x = new WordSolver();
        int a = x.variable(4);
        int not = x.unary(19, a);
        int neg = x.unary(20, a);
        due("5: number", 1, not);
        due("5: number", 2, neg);
        due("5: made already", 1, x.unary(19, a));
        due("5: width", 4, x.info(neg, 1));
        due("5: operand", 0, x.info(neg, 2));
        due("5: one operand", -1, x.info(neg, 3));
        int[][] rows = {{0, 15, 0}, {1, 14, 15}, {5, 10, 11}, {8, 7, 8}, {15, 0, 1}};
        for (int[] row : rows) {
            x.input(0, row[0]);
            due("5: inverted " + row[0], row[1], x.value(not, false));
            due("5: negative " + row[0], row[2], x.value(neg, false));
        }
        for (int kind : new int[] {-1, 0, 1, 18, 21, 24, MIN, MAX}) {
            dueArgument("5: kind " + kind, () -> x.unary(kind, a));
            dueArgument("5: the kind is looked at first, " + kind, () -> x.unary(kind, -1));
        }
        for (int node : new int[] {-1, 3, 40, MIN, MAX}) {
            dueIndex("5: node " + node, () -> x.unary(19, node));
        }
        dueState("5: 40 nodes", () -> full().unary(20, 0));
        WordSolver y = new WordSolver();
        y.constant(8, 1);
        y.unary(20, 0);
        due("5: undoable", 1, y.undo());
        due("5: undone", 1, y.nodes());
    }

    private static void promise6Slice() {
        WordSolver x = new WordSolver();
        int a = x.variable(6);
        x.input(0, 0b101101);
        int[][] rows = {{5, 0, 0b101101}, {5, 3, 0b101}, {3, 1, 0b110}, {0, 0, 1}, {5, 5, 1}, {4, 4, 0}, {2, 0, 0b101}};
        for (int[] row : rows) {
            int node = x.slice(a, row[0], row[1]);
            due("6: value of bits " + row[0] + " to " + row[1], row[2], x.value(node, false));
            due("6: width of bits " + row[0] + " to " + row[1], row[0] - row[1] + 1, x.info(node, 1));
            due("6: kind", 21, x.info(node, 0));
            due("6: operand", a, x.info(node, 2));
            due("6: high", row[0], x.info(node, 6));
            due("6: low", row[1], x.info(node, 7));
            due("6: made already", node, x.slice(a, row[0], row[1]));
        }
        int[][] wrong = {{6, 0}, {6, 6}, {-1, -1}, {0, -1}, {2, 3}, {0, 1}, {MAX, 0}, {MIN, 0}, {5, MIN}, {5, MAX}};
        for (int[] row : wrong) {
            dueArgument("6: bits " + row[0] + " to " + row[1], () -> x.slice(a, row[0], row[1]));
        }
        for (int node : new int[] {-1, 8, 40, MIN, MAX}) {
            dueIndex("6: node " + node, () -> x.slice(node, 0, 0));
            dueIndex("6: the node is looked at first, " + node, () -> x.slice(node, 0, 1));
        }
        WordSolver f = full();
        dueState("6: 40 nodes", () -> f.slice(0, 1, 0));
        dueArgument("6: the bits are looked at before", () -> f.slice(0, 8, 0));
        WordSolver y = new WordSolver();
        y.constant(8, 1);
        y.slice(0, 7, 0);
        due("6: undoable", 1, y.undo());
        due("6: undone", 1, y.nodes());
    }

    private static void promise7Extend() {
        WordSolver x = new WordSolver();
        int a = x.variable(3);
        int zeros = x.extend(a, 8, false);
        int copies = x.extend(a, 8, true);
        due("7: kind with zeros", 22, x.info(zeros, 0));
        due("7: kind with copies", 23, x.info(copies, 0));
        due("7: width", 8, x.info(copies, 1));
        due("7: operand", 0, x.info(copies, 2));
        due("7: made already", zeros, x.extend(a, 8, false));
        due("7: another width", 3, x.extend(a, 4, true));
        int[][] rows = {{0, 0, 0}, {3, 3, 3}, {4, 4, 252}, {7, 7, 255}};
        for (int[] row : rows) {
            x.input(0, row[0]);
            due("7: zeros before " + row[0], row[1], x.value(zeros, false));
            due("7: copies before " + row[0], row[2], x.value(copies, false));
        }
        for (int width : new int[] {3, 2, 0, -1, 9, MIN, MAX}) {
            dueArgument("7: width " + width, () -> x.extend(a, width, true));
        }
        for (int node : new int[] {-1, 4, 40, MIN, MAX}) {
            dueIndex("7: node " + node, () -> x.extend(node, 8, false));
            dueIndex("7: the node is looked at first, " + node, () -> x.extend(node, 9, false));
        }
        WordSolver f = new WordSolver();
        f.variable(1);
        for (int k = 0; k < 39; k++) {
            f.constant(8, k);
        }
        dueState("7: 40 nodes", () -> f.extend(0, 2, false));
        dueArgument("7: the width is looked at before", () -> f.extend(0, 1, false));
        WordSolver y = new WordSolver();
        y.constant(2, 1);
        y.extend(0, 3, true);
        due("7: undoable", 1, y.undo());
        due("7: undone", 1, y.nodes());
    }

    private static void promise8Choice() {
        WordSolver x = new WordSolver();
        int c = x.variable(1);
        int a = x.constant(4, 3);
        int b = x.constant(4, 12);
        int node = x.choice(c, a, b);
        due("8: number", 3, node);
        due("8: kind", 24, x.info(node, 0));
        due("8: width", 4, x.info(node, 1));
        due("8: first operand", c, x.info(node, 2));
        due("8: second operand", a, x.info(node, 3));
        due("8: third operand", b, x.info(node, 4));
        due("8: made already", node, x.choice(c, a, b));
        due("8: exchanged", 4, x.choice(c, b, a));
        due("8: value with 0", 12, x.value(node, false));
        x.input(0, 1);
        due("8: value with 1", 3, x.value(node, false));
        dueState("8: condition of width 4", () -> x.choice(a, a, b));
        dueState("8: different widths", () -> x.choice(c, c, b));
        dueState("8: different widths", () -> x.choice(c, b, c));
        for (int bad : new int[] {-1, 5, 40, MIN, MAX}) {
            dueIndex("8: condition " + bad, () -> x.choice(bad, a, b));
            dueIndex("8: first " + bad, () -> x.choice(c, bad, b));
            dueIndex("8: second " + bad, () -> x.choice(c, a, bad));
            dueIndex("8: nodes are looked at first, " + bad, () -> x.choice(a, b, bad));
        }
        WordSolver f = new WordSolver();
        f.variable(1);
        for (int k = 0; k < 39; k++) {
            f.constant(8, k);
        }
        dueState("8: 40 nodes", () -> f.choice(0, 1, 2));
        f.undo();
        due("8: the 40th node", 39, f.choice(0, 1, 2));
        due("8: undoable", 4, f.undo());
        due("8: undone", 39, f.nodes());
    }

    private static void promise9Nodes() {
        WordSolver x = new WordSolver();
        x.variable(2);
        due("9: one", 1, x.nodes());
        x.constant(2, 1);
        x.constant(2, 1);
        due("9: nothing twice", 2, x.nodes());
        due("9: full", 40, full().nodes());
    }

    private static void promise10Variables() {
        WordSolver x = new WordSolver();
        x.constant(2, 1);
        due("10: constants do not count", 0, x.variables());
        for (int k = 1; k <= 4; k++) {
            x.variable(4);
            due("10: count", k, x.variables());
        }
        x.undo();
        due("10: undone", 3, x.variables());
    }

    private static void promise11Info() {
        WordSolver x = new WordSolver();
        int a = x.variable(4);
        int b = x.variable(2);
        int five = x.constant(4, 5);
        int sum = x.binary(2, a, five);
        int square = x.binary(4, sum, sum);
        int part = x.slice(square, 2, 1);
        int less = x.binary(14, part, b);
        int choice = x.choice(less, sum, square);
        int twice = x.binary(2, choice, choice);
        int[][] rows = {
            {a, 1, 4, -1, -1, -1, 0, -1, -1, 1}, {b, 1, 2, -1, -1, -1, 1, -1, -1, 1},
            {five, 0, 4, -1, -1, -1, 5, -1, -1, 1}, {sum, 2, 4, a, five, -1, -1, -1, -1, 3},
            {square, 4, 4, sum, sum, -1, -1, -1, -1, 4}, {part, 21, 2, square, -1, -1, -1, 2, 1, 5},
            {less, 14, 1, part, b, -1, -1, -1, -1, 7}, {choice, 24, 4, less, sum, square, -1, -1, -1, 8},
            {twice, 2, 4, choice, choice, -1, -1, -1, -1, 9},
        };
        for (int[] row : rows) {
            for (int what = 0; what <= 8; what++) {
                due("11: node " + row[0] + ", what " + what, row[what + 1], x.info(row[0], what));
            }
        }
        for (int what : new int[] {-1, 9, 10, MIN, MAX}) {
            dueArgument("11: what " + what, () -> x.info(a, what));
        }
        for (int node : new int[] {-1, 9, 40, MIN, MAX}) {
            dueIndex("11: node " + node, () -> x.info(node, 0));
            dueIndex("11: the node is looked at first, " + node, () -> x.info(node, 9));
        }
    }

    private static void promise12Input() {
        WordSolver x = new WordSolver();
        x.variable(3);
        x.variable(8);
        due("12: 0 at first", 0, x.input(0, 7));
        due("12: the one before", 7, x.input(0, 2));
        due("12: another variable", 0, x.input(1, 255));
        due("12: its own input", 2, x.value(0, false));
        due("12: its own input", 255, x.value(1, false));
        for (int value : new int[] {8, -1, MIN, MAX}) {
            dueArgument("12: value " + value, () -> x.input(0, value));
        }
        dueArgument("12: 256", () -> x.input(1, 256));
        for (int variable : new int[] {-1, 2, 3, 4, MIN, MAX}) {
            dueIndex("12: variable " + variable, () -> x.input(variable, 0));
            dueIndex("12: the variable is looked at first, " + variable, () -> x.input(variable, -1));
        }
        due("12: undoable", 4, x.undo());
        due("12: undone", 0, x.value(1, false));
        due("12: the same value again saves, too", 2, x.input(0, 2));
        due("12: undoable, also if nothing changes", 4, x.undo());
        x.undo();
        due("12: undone", 7, x.value(0, false));
    }

    private static void promise13Value() {
        WordSolver x = new WordSolver();
        int a = x.variable(8);
        int b = x.variable(8);
        int sum = x.binary(2, a, b);
        int equal = x.binary(13, a, b);
        due("13: inputs are 0", 0, x.value(sum, false));
        due("13: true is 1", 1, x.value(equal, false));
        due("13: 1 with one bit is -1", -1, x.value(equal, true));
        x.input(0, 255);
        x.input(1, 128);
        due("13: 383 - 256", 127, x.value(sum, false));
        due("13: signed", 127, x.value(sum, true));
        due("13: unsigned", 128, x.value(b, false));
        due("13: signed", -128, x.value(b, true));
        due("13: signed", -1, x.value(a, true));
        due("13: false is 0", 0, x.value(equal, true));
        for (int node : new int[] {-1, 4, 40, MIN, MAX}) {
            dueIndex("13: node " + node, () -> x.value(node, false));
        }
        x.require(x.binary(14, a, b));
        due("13: constraints play no part", 127, x.value(sum, false));
    }

    private static void promise14Require() {
        WordSolver x = new WordSolver();
        int a = x.variable(1);
        int wide = x.variable(2);
        due("14: first", 0, x.require(a));
        due("14: the same node again", 1, x.require(a));
        due("14: count", 2, x.constraints());
        dueArgument("14: width 2", () -> x.require(wide));
        for (int node : new int[] {-1, 2, 40, MIN, MAX}) {
            dueIndex("14: node " + node, () -> x.require(node));
        }
        for (int k = 2; k < 20; k++) {
            due("14: number", k, x.require(a));
        }
        dueState("14: a 21st", () -> x.require(a));
        dueArgument("14: the width is looked at before", () -> x.require(wide));
        due("14: undoable", 4, x.undo());
        due("14: undone", 19, x.constraints());
        x.push();
        x.require(a);
        due("14: the latest level", 1, x.constraint(19, true));
        due("14: the node", a, x.constraint(19, false));
    }

    private static void promise15Push() {
        WordSolver x = new WordSolver();
        for (int level = 1; level <= 5; level++) {
            due("15: level", level, x.push());
        }
        dueState("15: a sixth", x::push);
        due("15: undoable", 4, x.undo());
        due("15: undone", 5, x.push());
    }

    private static void promise16Pop() {
        WordSolver x = new WordSolver();
        int a = x.variable(1);
        x.require(a);
        dueState("16: level 0 stays", x::pop);
        x.push();
        x.require(a);
        x.require(x.unary(19, a));
        due("16: a conflict", false, x.satisfiable());
        x.push();
        due("16: an empty level", 0, x.pop());
        due("16: nothing removed", 3, x.constraints());
        due("16: two constraints", 2, x.pop());
        due("16: one is left", 1, x.constraints());
        due("16: models are back", true, x.satisfiable());
        due("16: of level 0", 0, x.constraint(0, true));
        dueState("16: level 0 stays", x::pop);
        due("16: undoable", 4, x.undo());
        due("16: undone", 3, x.constraints());
        due("16: level undone", 1, x.constraint(2, true));
        due("16: a conflict again", false, x.satisfiable());
        due("16: the level is the latest one again", 2, x.push());
    }

    private static void promise16PopAlone() {
        WordSolver x = new WordSolver();
        int a = x.variable(1);
        x.push();
        x.require(a);
        due("16: the only constraint", 1, x.pop());
        due("16: none is left", 0, x.constraints());
        due("16: undoable", 3, x.undo());
        due("16: it is back", 1, x.constraints());
        due("16: its level is back", 2, x.push());
    }

    private static void promise17Constraints() {
        WordSolver x = new WordSolver();
        int a = x.variable(1);
        for (int k = 1; k <= 20; k++) {
            x.require(a);
            due("17: count", k, x.constraints());
        }
    }

    private static void promise18Constraint() {
        WordSolver x = new WordSolver();
        int a = x.variable(1);
        int b = x.variable(1);
        x.require(b);
        x.push();
        x.push();
        x.require(a);
        x.require(b);
        int[][] rows = {{b, 0}, {a, 2}, {b, 2}};
        for (int k = 0; k < 3; k++) {
            due("18: node", rows[k][0], x.constraint(k, false));
            due("18: level", rows[k][1], x.constraint(k, true));
        }
        for (int k : new int[] {-1, 3, 19, 20, MIN, MAX}) {
            dueIndex("18: constraint " + k, () -> x.constraint(k, false));
            dueIndex("18: level of constraint " + k, () -> x.constraint(k, true));
        }
        x.pop();
        dueIndex("18: popped", () -> x.constraint(1, false));
    }

    private static void promise19Satisfiable() {
        WordSolver x = new WordSolver();
        due("19: no constraints", true, x.satisfiable());
        int one = x.constant(1, 1);
        int zero = x.constant(1, 0);
        x.require(one);
        due("19: always true, no variables", true, x.satisfiable());
        x.require(zero);
        due("19: never true, no variables", false, x.satisfiable());
        x.undo();
        due("19: undone", true, x.satisfiable());
        int a = x.variable(8);
        int b = x.variable(8);
        int last = x.constant(8, 255);
        x.require(x.binary(13, x.binary(5, a, b), last));
        due("19: only the last assignment", true, x.satisfiable());
        x.require(x.binary(16, last, a));
        due("19: but not that", false, x.satisfiable());
    }

    /** Variables x and y of 4 bits with x * y == 12 (modulo 16) and x < y; the models are PRODUCTS. */
    private static WordSolver product() {
        WordSolver x = new WordSolver();
        int a = x.variable(4);
        int b = x.variable(4);
        int twelve = x.constant(4, 12);
        x.require(x.binary(13, x.binary(4, a, b), twelve));
        x.require(x.binary(14, a, b));
        return x;
    }

    /** The models of product(), in their order. */
    private static final int[][] PRODUCTS = {{1, 12}, {2, 6}, {2, 14}, {3, 4}, {4, 7}, {4, 11}, {4, 15}, {5, 12},
        {6, 10}, {9, 12}, {10, 14}, {12, 13}};

    private static void promise20Witness() {
        WordSolver x = product();
        due("20: least x", 1, x.witness(0));
        due("20: least y", 12, x.witness(1));
        x.require(x.binary(14, x.constant(4, 3), 0));
        due("20: next x", 4, x.witness(0));
        due("20: next y", 7, x.witness(1));
        for (int variable : new int[] {-1, 2, 4, MIN, MAX}) {
            dueIndex("20: variable " + variable, () -> x.witness(variable));
        }
        x.require(x.binary(14, x.constant(4, 12), 0));
        due("20: no model", -1, x.witness(0));
        dueIndex("20: no model, no variable", () -> x.witness(2));
        WordSolver four = new WordSolver();
        int[] widths = {3, 5, 7, 1};
        int[] words = {6, 19, 77, 1};
        for (int width : widths) {
            four.variable(width);
        }
        for (int v = 0; v < 4; v++) {
            four.require(four.binary(15, four.constant(widths[v], words[v]), v));
        }
        for (int v = 0; v < 4; v++) {
            due("20: four variables, " + v, words[v], four.witness(v));
        }
    }

    private static void promise21Extreme() {
        WordSolver x = product();
        due("21: smallest x", 1, x.extreme(0, false, false));
        due("21: greatest x", 12, x.extreme(0, true, false));
        due("21: smallest y", 4, x.extreme(1, false, false));
        due("21: greatest y", 15, x.extreme(1, true, false));
        due("21: smallest x, signed: 9 is -7", -7, x.extreme(0, false, true));
        due("21: greatest x, signed", 6, x.extreme(0, true, true));
        due("21: smallest y, signed: 10 is -6", -6, x.extreme(1, false, true));
        due("21: greatest y, signed", 7, x.extreme(1, true, true));
        due("21: a constant, signed", -4, x.extreme(2, true, true));
        due("21: one bit, signed", -1, x.extreme(4, true, true));
        for (int node : new int[] {-1, 6, 40, MIN, MAX}) {
            dueIndex("21: node " + node, () -> x.extreme(node, true, true));
        }
        x.require(x.constant(1, 0));
        dueState("21: no model", () -> x.extreme(0, true, false));
        dueIndex("21: the node is looked at first", () -> x.extreme(99, true, false));
        WordSolver y = new WordSolver();
        y.variable(8);
        due("21: all words", 0, y.extreme(0, false, false));
        due("21: all words", 255, y.extreme(0, true, false));
        due("21: all words, signed", -128, y.extreme(0, false, true));
        due("21: all words, signed", 127, y.extreme(0, true, true));
    }

    private static void promise22ExtremeWitness() {
        WordSolver x = product();
        int sum = x.binary(2, 0, 1);
        // the sums modulo 16 of PRODUCTS: 13 8 0 7 11 15 3 1 0 5 8 9
        due("22: x at the smallest sum", 2, x.extremeWitness(sum, false, 0));
        due("22: y at the smallest sum", 14, x.extremeWitness(sum, false, 1));
        due("22: x at the greatest sum", 4, x.extremeWitness(sum, true, 0));
        due("22: y at the greatest sum", 11, x.extremeWitness(sum, true, 1));
        int equal = x.binary(13, 1, 2);
        due("22: least of those with y 12", 1, x.extremeWitness(equal, true, 0));
        due("22: least of those with y not 12", 2, x.extremeWitness(equal, false, 0));
        due("22: and its y", 6, x.extremeWitness(equal, false, 1));
        for (int bad : new int[] {-1, 40, MIN, MAX}) {
            dueIndex("22: node " + bad, () -> x.extremeWitness(bad, true, 0));
            dueIndex("22: variable " + bad, () -> x.extremeWitness(0, true, bad));
        }
        dueIndex("22: next node", () -> x.extremeWitness(x.nodes(), true, 0));
        dueIndex("22: next variable", () -> x.extremeWitness(0, true, 2));
        x.require(x.constant(1, 0));
        due("22: no model", -1, x.extremeWitness(sum, true, 0));
        dueIndex("22: no model, no variable", () -> x.extremeWitness(sum, true, 2));
    }

    private static void promise23Fixed() {
        WordSolver x = new WordSolver();
        int a = x.variable(8);
        due("23: nothing is fixed", 0, x.fixed(a, false));
        due("23: no values", 0, x.fixed(a, true));
        int pattern = x.constant(8, 0b10100101);
        int mask = x.constant(8, 0b11110000);
        x.require(x.binary(13, x.binary(5, a, mask), x.binary(5, pattern, mask)));
        due("23: high bits", 0b11110000, x.fixed(a, false));
        due("23: their values", 0b10100000, x.fixed(a, true));
        due("23: a constant", 255, x.fixed(pattern, false));
        due("23: its value", 0b10100101, x.fixed(pattern, true));
        for (int node : new int[] {-1, 6, 40, MIN, MAX}) {
            dueIndex("23: node " + node, () -> x.fixed(node, false));
        }
        x.require(x.constant(1, 0));
        due("23: no model", -1, x.fixed(a, false));
        due("23: no model", -1, x.fixed(a, true));
        dueIndex("23: no model, no node", () -> x.fixed(99, true));
        WordSolver z = new WordSolver();
        int first = z.variable(8);
        int second = z.variable(8);
        due("23: a lowest bit 0", 1, z.fixed(z.binary(2, first, first), false));
        due("23: its value", 0, z.fixed(z.binary(2, first, first), true));
        int zero = z.constant(8, 0);
        int full = z.constant(8, 255);
        due("23: a constant without constraints", 255, z.fixed(full, false));
        due("23: its value without constraints", 255, z.fixed(full, true));
        int onlyFirst = z.binary(13, z.binary(6, first, second), zero);
        int onlyLast = z.binary(13, z.binary(5, first, second), full);
        due("23: another value in the first model alone", 0, z.fixed(onlyFirst, false));
        due("23: another value in the last model alone", 0, z.fixed(onlyLast, false));
        z.require(z.binary(14, first, z.constant(8, 2)));
        due("23: below 2", 254, z.fixed(first, false));
        due("23: now it is fixed", 1, z.fixed(onlyLast, false));
        WordSolver y = product();
        y.require(y.binary(13, 1, y.constant(4, 12)));
        due("23: x is 1, 5 or 9", 3, y.fixed(0, false));
        due("23: x is 1, 5 or 9", 1, y.fixed(0, true));
    }

    private static void promise24Models() {
        WordSolver x = product();
        due("24: all", PRODUCTS.length, x.models(200));
        due("24: exactly the limit", PRODUCTS.length, x.models(PRODUCTS.length));
        due("24: one fewer", PRODUCTS.length - 1, x.models(PRODUCTS.length - 1));
        due("24: one", 1, x.models(1));
        for (int limit : new int[] {0, -1, 201, MIN, MAX}) {
            dueArgument("24: limit " + limit, () -> x.models(limit));
        }
        WordSolver y = new WordSolver();
        due("24: without variables", 1, y.models(200));
        y.variable(2);
        due("24: two bits", 4, y.models(200));
        y.variable(3);
        due("24: five bits", 32, y.models(200));
        y.variable(1);
        due("24: six bits", 64, y.models(200));
        y.variable(1);
        due("24: seven bits", 128, y.models(200));
        y.undo();
        y.undo();
        due("24: undone", 32, y.models(200));
        y.require(y.constant(1, 0));
        due("24: no model", 0, y.models(200));
        WordSolver z = new WordSolver();
        z.variable(8);
        z.variable(8);
        due("24: 65536 models", 200, z.models(200));
    }

    private static void promise25Values() {
        WordSolver x = product();
        due("25: x", 9, x.values(0, 200));
        due("25: y", 9, x.values(1, 200));
        due("25: at most the limit", 8, x.values(1, 8));
        due("25: exactly the limit", 9, x.values(1, 9));
        due("25: a constant", 1, x.values(2, 200));
        for (int limit : new int[] {0, -1, 201, MIN, MAX}) {
            dueArgument("25: limit " + limit, () -> x.values(0, limit));
        }
        for (int node : new int[] {-1, 6, 40, MIN, MAX}) {
            dueIndex("25: node " + node, () -> x.values(node, 1));
            dueIndex("25: the node is looked at first, " + node, () -> x.values(node, 0));
        }
        x.require(x.constant(1, 0));
        due("25: no model", 0, x.values(0, 200));
        WordSolver one = new WordSolver();
        one.variable(8);
        one.require(one.binary(13, 0, one.constant(8, 64)));
        due("25: one model", 1, one.values(0, 200));
        due("25: its value", 64, one.valueAt(0, 0));
        due("25: its fixed bits", 64, one.fixed(0, true));
        WordSolver y = new WordSolver();
        y.variable(8);
        y.variable(8);
        due("25: 256 values", 200, y.values(0, 200));
        due("25: 256 values of the last variable", 199, y.values(1, 199));
    }

    private static void promise26ValueAt() {
        WordSolver x = product();
        int[] words = {4, 6, 7, 10, 11, 12, 13, 14, 15};
        int[] first = {1, 2, 3, 4, 5, 6, 9, 10, 12};
        for (int k = 0; k < first.length; k++) {
            due("26: x " + k, first[k], x.valueAt(0, k));
        }
        due("26: no more of x", -1, x.valueAt(0, first.length));
        for (int k = 0; k < words.length; k++) {
            due("26: y " + k, words[k], x.valueAt(1, k));
        }
        due("26: no more of y", -1, x.valueAt(1, words.length));
        for (int k : new int[] {-1, 200, MIN, MAX}) {
            due("26: k " + k, -1, x.valueAt(0, k));
        }
        for (int node : new int[] {-1, 6, 40, MIN, MAX}) {
            dueIndex("26: node " + node, () -> x.valueAt(node, 0));
            dueIndex("26: the node is looked at first, " + node, () -> x.valueAt(node, -1));
        }
        WordSolver y = new WordSolver();
        y.variable(8);
        due("26: the last one that is told", 199, y.valueAt(0, 199));
        due("26: 200 is out of range", -1, y.valueAt(0, 200));
        y.require(y.constant(1, 0));
        due("26: no model", -1, y.valueAt(0, 0));
    }

    private static void promise27Equivalent() {
        WordSolver x = new WordSolver();
        int a = x.variable(8);
        int b = x.variable(8);
        int sum = x.binary(2, a, b);
        int other = x.binary(3, a, x.unary(20, b));
        due("27: a + b and a - -b", true, x.equivalent(sum, other));
        due("27: a node and itself", true, x.equivalent(a, a));
        int or = x.binary(6, a, b);
        due("27: a + b and a | b", false, x.equivalent(sum, or));
        x.require(x.binary(13, x.binary(5, a, b), x.constant(8, 0)));
        due("27: without common bits they are", true, x.equivalent(sum, or));
        due("27: different in the last model alone", false,
                x.equivalent(x.binary(13, a, x.constant(8, 255)), x.constant(1, 0)));
        int bit = x.slice(a, 0, 0);
        dueArgument("27: different widths", () -> Check.bool(x.equivalent(a, bit)));
        for (int node : new int[] {-1, x.nodes(), 40, MIN, MAX}) {
            dueIndex("27: first node " + node, () -> Check.bool(x.equivalent(node, a)));
            dueIndex("27: second node " + node, () -> Check.bool(x.equivalent(a, node)));
        }
        x.require(x.constant(1, 0));
        due("27: no model", true, x.equivalent(a, b));
        dueArgument("27: no model, different widths", () -> Check.bool(x.equivalent(a, bit)));
    }

    private static void promise28Counterexample() {
        WordSolver x = product();
        int five = x.constant(4, 5);
        int limited = x.choice(x.binary(14, 0, five), 0, five);
        due("28: the first x of 5 and more, but not 5", 6, x.counterexample(0, limited, 0));
        due("28: and its y", 10, x.counterexample(0, limited, 1));
        due("28: other order of the nodes", 6, x.counterexample(limited, 0, 0));
        due("28: the same node", -1, x.counterexample(0, 0, 0));
        due("28: least model", 1, x.counterexample(0, 1, 0));
        for (int node : new int[] {-1, x.nodes(), 40, MIN, MAX}) {
            dueIndex("28: first node " + node, () -> x.counterexample(node, 0, 0));
            dueIndex("28: second node " + node, () -> x.counterexample(0, node, 0));
            dueIndex("28: variable " + node, () -> x.counterexample(0, 0, node));
        }
        dueIndex("28: next variable", () -> x.counterexample(0, 0, 2));
        int bit = x.slice(0, 0, 0);
        dueArgument("28: different widths", () -> x.counterexample(0, bit, 0));
        dueIndex("28: the variable is looked at first", () -> x.counterexample(0, bit, 2));
        x.require(x.constant(1, 0));
        due("28: no model", -1, x.counterexample(0, 1, 0));
    }

    private static void promise29Core() {
        WordSolver x = new WordSolver();
        due("29: no constraints", -1, x.core());
        int a = x.variable(8);
        int b = x.variable(8);
        int ab = x.binary(14, a, b);
        int ba = x.binary(14, b, a);
        int equal = x.binary(13, a, b);
        x.require(ab);
        due("29: a model", -1, x.core());
        x.require(x.constant(1, 1));
        x.require(equal);
        due("29: less and equal", 0b101, x.core());
        x.require(ba);
        due("29: the earlier ones are taken out first", 0b1100, x.core());
        x.require(ab);
        due("29: the earlier ones are taken out first", 0b11000, x.core());
        x.require(x.constant(1, 0));
        due("29: one alone", 0b100000, x.core());
        x.undo();
        due("29: undone", 0b11000, x.core());
        WordSolver y = new WordSolver();
        y.constant(1, 0);
        for (int k = 0; k < 20; k++) {
            y.require(0);
        }
        due("29: the last of twenty", 1 << 19, y.core());
        WordSolver z = new WordSolver();
        int c = z.variable(2);
        for (int word = 0; word < 4; word++) {
            z.require(z.unary(19, z.binary(13, c, z.constant(2, word))));
        }
        due("29: all are needed", 0b1111, z.core());
    }

    private static void promise30Wish() {
        WordSolver x = new WordSolver();
        int a = x.variable(1);
        int wide = x.variable(2);
        for (int k = 1; k <= 7; k++) {
            due("30: count", k, x.wish(a, k));
        }
        for (int weight : new int[] {0, -1, 10, MIN, MAX}) {
            dueArgument("30: weight " + weight, () -> x.wish(a, weight));
        }
        dueArgument("30: width 2", () -> x.wish(wide, 1));
        for (int node : new int[] {-1, 2, 40, MIN, MAX}) {
            dueIndex("30: node " + node, () -> x.wish(node, 1));
            dueIndex("30: the node is looked at first, " + node, () -> x.wish(node, 0));
        }
        due("30: the greatest weight", 8, x.wish(a, 9));
        dueState("30: a ninth", () -> x.wish(a, 1));
        dueArgument("30: the weight is looked at before", () -> x.wish(a, 10));
        due("30: all of them", 37, x.gain());
        due("30: undoable", 4, x.undo());
        due("30: undone", 28, x.gain());
    }

    private static void promise31ClearWishes() {
        WordSolver x = new WordSolver();
        int a = x.variable(1);
        due("31: none", 0, x.clearWishes());
        x.wish(a, 3);
        x.wish(a, 4);
        due("31: two", 2, x.clearWishes());
        due("31: none left", 0, x.gain());
        due("31: undoable", 4, x.undo());
        due("31: undone", 7, x.gain());
        WordSolver y = new WordSolver();
        y.clearWishes();
        due("31: undoable, also if nothing changes", 0, y.undo());
    }

    /** Wishes for product(): y is 12 (3), x is even (5), y is less than 8 (1), x is 4 (2). */
    private static WordSolver wishes() {
        WordSolver x = product();
        x.wish(x.binary(13, 1, 2), 3);
        x.wish(x.unary(19, x.slice(0, 0, 0)), 5);
        x.wish(x.binary(14, 1, x.constant(4, 8)), 1);
        x.wish(x.binary(13, 0, x.constant(4, 4)), 2);
        return x;
    }

    private static void promise32Gain() {
        WordSolver x = wishes();
        due("32: x 4 and y 7", 8, x.gain());
        x.require(x.binary(14, x.constant(4, 4), 0));
        due("32: x even", 5, x.gain());
        x.require(x.slice(0, 0, 0));
        due("32: y is 12", 3, x.gain());
        x.require(x.binary(14, x.constant(4, 11), 0));
        due("32: no model", -1, x.gain());
        WordSolver y = new WordSolver();
        int one = y.constant(1, 1);
        for (int k = 0; k < 8; k++) {
            y.wish(one, 9);
        }
        due("32: the greatest gain", 72, y.gain());
        y.clearWishes();
        y.wish(y.constant(1, 0), 9);
        due("32: a wish that is never met", 0, y.gain());
    }

    private static void promise33BestWitness() {
        WordSolver x = wishes();
        due("33: x", 4, x.bestWitness(0));
        due("33: y", 7, x.bestWitness(1));
        x.require(x.binary(14, x.constant(4, 4), 0));
        due("33: the least of those with 5: x", 6, x.bestWitness(0));
        due("33: the least of those with 5: y", 10, x.bestWitness(1));
        x.clearWishes();
        due("33: without wishes the least model: x", 5, x.bestWitness(0));
        due("33: without wishes the least model: y", 12, x.bestWitness(1));
        for (int variable : new int[] {-1, 2, 4, MIN, MAX}) {
            dueIndex("33: variable " + variable, () -> x.bestWitness(variable));
        }
        x.require(x.constant(1, 0));
        due("33: no model", -1, x.bestWitness(0));
        dueIndex("33: no model, no variable", () -> x.bestWitness(2));
    }

    private static void promise34Append() {
        WordSolver x = new WordSolver();
        due("34: space", 1, x.append(32));
        due("34: the last code", 2, x.append(126));
        for (int c : new int[] {31, 127, 0, -1, 128, 256 + 65, MIN, MAX}) {
            dueArgument("34: code " + c, () -> x.append(c));
        }
        due("34: first character", 32, x.character(0));
        due("34: second character", 126, x.character(1));
        for (int length = 3; length <= 120; length++) {
            due("34: length", length, x.append(65));
        }
        dueState("34: full", () -> x.append(65));
        dueArgument("34: the code is looked at first", () -> x.append(127));
        due("34: nothing more", -1, x.character(120));
        dueState("34: not undoable", x::undo);
    }

    private static void promise35ClearText() {
        WordSolver x = new WordSolver();
        due("35: empty", 0, x.clearText());
        Solvers.type(x, "v0 ");
        due("35: three characters", 3, x.clearText());
        due("35: empty again", 0, x.clearText());
        due("35: no character", -1, x.character(0));
        due("35: a new text", 1, x.append(40));
        due("35: begins at 0", 40, x.character(0));
        dueState("35: not undoable", x::undo);
    }

    private static void dueSyntax(String text, int position) {
        WordSolver x = new WordSolver();
        Solvers.type(x, text);
        due("36: \"" + text + "\"", position, x.syntaxError());
    }

    private static void promise36SyntaxError() {
        String[] good = {"v0", "v9", " v3 ", "5:8", "999:9", "007:0", " 5 : 8 ", "(add v0 v1)", "(addv0v1)", "(not(neg v0))",
            "( ite v0 v1 v2 )", "(ite 0:1 1:1 2:2)", "(slice v0 3 1)", "( slice v0 3 1 )", "(slicev0 0 9)", "(zext v0 8)",
            "(sext 5:4 0)", "(cat(slice 5:8 3 1)v0)", "(divv0v1)", "(shl v0(shr v1 v2))", "(add 1:1 2:2)",
            "(add 1:1v0)", "(sub(mul v0 v1)(and(or v0 v1)(xor v2 v3)))", "(sar(rem v0 v1)(eq v2 v3))",
            "(lt(le v0 v1)(slt(sle v0 v1)v2))", "(not v0)", "(zextv0 8)", "(or v0 1:2)"};
        for (String text : good) {
            dueSyntax(text, -1);
        }
        dueSyntax("", 0);
        dueSyntax("   ", 3);
        dueSyntax("v", 0);
        dueSyntax("  v", 2);
        dueSyntax("v 0", 0);
        dueSyntax("vv0", 0);
        dueSyntax("v07", 2);
        dueSyntax("v0 7", 3);
        dueSyntax("v0v1", 2);
        dueSyntax("v0)", 2);
        dueSyntax("x", 0);
        dueSyntax("add", 0);
        dueSyntax(")", 0);
        dueSyntax(":", 0);
        dueSyntax("5", 1);
        dueSyntax("5 ", 2);
        dueSyntax("5:", 2);
        dueSyntax("5: ", 3);
        dueSyntax("5:v", 2);
        dueSyntax("5:88", 3);
        dueSyntax("5:8 8", 4);
        dueSyntax("5 5:8", 2);
        dueSyntax("5v0", 1);
        dueSyntax("123", 3);
        dueSyntax("1234", 3);
        dueSyntax("1234:8", 3);
        dueSyntax("0001:8", 3);
        dueSyntax(" 12345:8", 4);
        dueSyntax("(", 1);
        dueSyntax("( ", 2);
        dueSyntax("()", 1);
        dueSyntax("((", 1);
        dueSyntax("( 5", 2);
        dueSyntax("(v0", 1);
        dueSyntax("(v", 1);
        dueSyntax("(ad", 1);
        dueSyntax("( ad", 2);
        dueSyntax("(ad v0 v1)", 1);
        dueSyntax("(addx v0 v1)", 1);
        dueSyntax("(addv v0 v1)", 1);
        dueSyntax("(div0 v1)", 1);
        dueSyntax("(slices v0 1 0)", 1);
        dueSyntax("(zextend v0 8)", 1);
        dueSyntax("(Add v0 v1)", 1);
        dueSyntax("(addX", 4);
        dueSyntax("(add", 4);
        dueSyntax("(add ", 5);
        dueSyntax("(add)", 4);
        dueSyntax("(add v0", 7);
        dueSyntax("(add v0)", 7);
        dueSyntax("(add v0 ", 8);
        dueSyntax("(add v0 v", 8);
        dueSyntax("(add v0 v1", 10);
        dueSyntax("(add v0 v1 v2)", 11);
        dueSyntax("(add v0 v1 5)", 11);
        dueSyntax("(add v0 sub)", 8);
        dueSyntax("(add v01 v1)", 7);
        dueSyntax("(add 5:85:8)", 8);
        dueSyntax("(not v0 v1)", 8);
        dueSyntax("(neg)", 4);
        dueSyntax("(ite v0 v1)", 10);
        dueSyntax("(ite v0 v1 v2 v3)", 14);
        dueSyntax("(slice v0 3)", 11);
        dueSyntax("(slice v0 3", 11);
        dueSyntax("(slice v0", 9);
        dueSyntax("(slice v0 v1 0)", 10);
        dueSyntax("(slice v0 31)", 11);
        dueSyntax("(slice v0 31 0)", 11);
        dueSyntax("(slice v0 3 1 0)", 14);
        dueSyntax("(slice v0 3 12)", 13);
        dueSyntax("(slice 3 1 v0)", 9);
        dueSyntax("(zext v0)", 8);
        dueSyntax("(zext v0 12)", 10);
        dueSyntax("(zext v0 8:8)", 10);
        dueSyntax("(sext v0 8 8)", 11);
        dueSyntax("(sext 8 v0)", 8);
        dueSyntax("(add v0 v1))", 11);
        dueSyntax("(add v0 v1) v2", 12);
        dueSyntax("(add v0 (sub v1 v2)", 19);
        dueSyntax("(add, v0 v1)", 4);
        StringBuilder deep = new StringBuilder();
        for (int k = 0; k < 40; k++) {
            deep.append("(or");
        }
        dueSyntax(deep.toString(), 120);
        WordSolver x = new WordSolver();
        Solvers.type(x, "v0");
        x.syntaxError();
        x.append('0');
        due("36: asked anew", 2, x.syntaxError());
        due("36: the text stays", 3, x.clearText());
        Solvers.type(x, "(add (sub");
        due("36: open parentheses", 9, x.syntaxError());
        Solvers.type(x, "v1");
        due("36: are forgotten", -1, x.syntaxError());
    }

    private static void promise37Read() {
        WordSolver x = new WordSolver();
        x.variable(4);
        x.variable(4);
        due("37: a variable", 1, Solvers.read(x, "v1"));
        due("37: undoable, also if nothing changes", 2, x.undo());
        due("37: the sum is the last node", 4, Solvers.read(x, "(add (not v1) 5:4)"));
        due("37: from left to right", 19, x.info(2, 0));
        due("37: from left to right", 0, x.info(3, 0));
        due("37: from left to right", 2, x.info(4, 2));
        due("37: from left to right", 3, x.info(4, 3));
        due("37: the text stays", 18, x.clearText());
        due("37: nodes are not made twice", 4, Solvers.read(x, " ( add(notv1)005:4 )"));
        due("37: nodes", 5, x.nodes());
        x.undo();
        due("37: undo takes back all nodes", 2, x.undo());
        due("37: undone", 2, x.nodes());
        String[] texts = {"(add v0 v1)", "(sub v0 v1)", "(mul v0 v1)", "(and v0 v1)", "(or v0 v1)", "(xor v0 v1)",
            "(shl v0 v1)", "(shr v0 v1)", "(sar v0 v1)", "(div v0 v1)", "(rem v0 v1)", "(eq v0 v1)", "(lt v0 v1)",
            "(le v0 v1)", "(slt v0 v1)", "(sle v0 v1)", "(cat v0 v1)", "(not v0)", "(neg v0)", "(slice v0 3 1)",
            "(zext v0 8)", "(sext v0 5)", "(ite (eq v0 v1) v0 v1)"};
        for (int k = 0; k < texts.length; k++) {
            int node = Solvers.read(x, texts[k]);
            due("37: " + texts[k], k + 2, x.info(node, 0));
        }
        due("37: all of them", 25, x.nodes());
        due("37: high", 3, x.info(Solvers.read(x, "(slice v0 3 1)"), 6));
        due("37: low", 1, x.info(Solvers.read(x, "(slice v0 3 1)"), 7));
        due("37: width", 8, x.info(Solvers.read(x, "(zext v0 8)"), 1));
        due("37: width", 5, x.info(Solvers.read(x, "(sext v0 5)"), 1));
        due("37: operands of a choice", 1, x.info(Solvers.read(x, "(ite (eq v0 v1) v0 v1)"), 4));
        promise37Refused();
        promise37Full();
    }

    private static void promise37Refused() {
        WordSolver x = new WordSolver();
        x.variable(4);
        x.variable(4);
        Solvers.type(x, "v0");
        long before = x.digest();
        String[] impossible = {"v2", "5:0", "5:9", "16:4", "256:8", "(add v0 1:1)", "(add 1:1 v0)", "(cat v0 1:5)",
            "(slice v0 4 0)", "(slice v0 0 1)", "(zext v0 4)", "(sext v0 9)", "(zext v0 0)", "(ite v0 v0 v1)",
            "(ite 1:1 v0 1:1)", "(add (neg (neg v0)) v9)", "(not (add 6:4 7:5))"};
        for (String text : impossible) {
            Solvers.type(x, text);
            dueState("37: " + text, x::read);
        }
        Solvers.type(x, "v0");
        due("37: what throws changes nothing", before, x.digest());
        for (String text : new String[] {"", "v", "(add v0 v1", "(foo v0)", "v7 v"}) {
            Solvers.type(x, text);
            dueArgument("37: syntax error in \"" + text + "\"", x::read);
        }
    }

    private static void promise37Full() {
        WordSolver f = full();
        due("37: a full object still has its nodes", 8, Solvers.read(f, "7:8"));
        Solvers.type(f, "(add v0 7:8)");
        dueState("37: 40 nodes", f::read);
        f.undo();
        f.undo();
        due("37: room for one", 39, f.nodes());
        Solvers.type(f, "(neg (not v0))");
        dueState("37: two nodes are too many", f::read);
        due("37: then no node is made", 39, f.nodes());
        due("37: one node is not", 39, Solvers.read(f, "(add v0 7:8)"));
        due("37: one saved state a call", 3, f.undo());
        due("37: undone", 39, f.nodes());
    }

    private static void dueWritten(String text, WordSolver x, int node) {
        due("38: length of " + text, text.length(), x.write(node));
        CHECK.same("38: " + text, text, Solvers.textOf(x));
        due("38: read again", node, x.read());
    }

    private static void promise38Write() {
        WordSolver x = new WordSolver();
        int a = x.variable(8);
        int c = x.constant(8, 5);
        int part = x.slice(c, 3, 1);
        int b = x.variable(3);
        dueWritten("v0", x, a);
        dueWritten("v1", x, b);
        dueWritten("5:8", x, c);
        dueWritten("(slice 5:8 3 1)", x, part);
        dueWritten("(add v1 (slice 5:8 3 1))", x, x.binary(2, b, part));
        dueWritten("(zext v1 8)", x, x.extend(b, 8, false));
        dueWritten("(sext v1 4)", x, x.extend(b, 4, true));
        dueWritten("(not v0)", x, x.unary(19, a));
        dueWritten("(neg v0)", x, x.unary(20, a));
        dueWritten("99:8", x, x.constant(8, 99));
        dueWritten("100:8", x, x.constant(8, 100));
        dueWritten("255:8", x, x.constant(8, 255));
        dueWritten("10:8", x, x.constant(8, 10));
        dueWritten("0:8", x, x.constant(8, 0));
        dueWritten("(ite (eq v0 5:8) v1 v1)", x, x.choice(x.binary(13, a, c), b, b));
        dueWritten("(cat v1 v1)", x, x.binary(18, b, b));
        for (int node : new int[] {-1, x.nodes(), 40, MIN, MAX}) {
            dueIndex("38: node " + node, () -> x.write(node));
        }
        promise38Words();
        promise38Lengths();
        promise38Numbers();
    }

    private static void promise38Words() {
        WordSolver x = new WordSolver();
        int a = x.variable(8);
        String[] words = {"sub", "mul", "and", "or", "xor", "shl", "shr", "sar", "div", "rem", "eq", "lt", "le", "slt",
            "sle"};
        for (int k = 0; k < words.length; k++) {
            dueWritten("(" + words[k] + " v0 v0)", x, x.binary(3 + k, a, a));
        }
    }

    private static void promise38Lengths() {
        WordSolver y = new WordSolver();
        int node = y.variable(4);
        for (int k = 0; k < 39; k++) {
            node = y.binary(6, node, node);
        }
        // a description of twice the length and 6 characters more with each node: 2, 10, 26, 58, 122
        due("38: 58 characters", 58, y.write(3));
        dueState("38: 122 characters", () -> y.write(4));
        dueState("38: far too many", () -> y.write(39));
        due("38: what throws changes nothing", 58, y.clearText());
        WordSolver z = new WordSolver();
        z.variable(1);
        z.variable(1);
        int last = 0;
        for (int k = 0; k < 14; k++) {
            last = z.binary(6, last, 1);
        }
        // 2 characters and 8 more with each node: 114
        due("38: 114 characters", 114, z.write(last));
        int not = z.unary(19, last);
        due("38: 120 characters", 120, z.write(not));
        int more = z.choice(0, 0, z.constant(1, 0));
        z.write(more);
        int eq = z.binary(5, z.info(last, 2), z.constant(1, 0));
        // 106, and 7 more for "(and  )", and "0:1"
        due("38: 116 characters", 116, z.write(eq));
        int long121 = z.binary(18, z.constant(2, 3), z.info(not, 2));
        dueState("38: 124 characters", () -> z.write(long121));
        WordSolver w = new WordSolver();
        w.variable(1);
        int chain = w.binary(13, 0, 0);
        // 10, then 9 more each: 10 + 11 * 9 = 109
        for (int k = 0; k < 11; k++) {
            chain = w.binary(5, chain, 0);
        }
        due("38: 109 characters", 109, w.write(chain));
        due("38: 118 characters", 118, w.write(w.binary(5, chain, 0)));
        int extended = w.extend(chain, 8, false);
        due("38: 118 characters", 118, w.write(extended));
        int sliced = w.slice(chain, 0, 0);
        dueState("38: 121 characters", () -> w.write(sliced));
        due("38: the text stays", 118, w.clearText());
        dueState("38: not undoable", () -> {
            WordSolver u = new WordSolver();
            u.constant(1, 1);
            u.undo();
            u.constant(1, 1);
            u.write(0);
            u.undo();
            return u.undo();
        });
    }

    /** A node whose description has 10 characters, 8 more for each "(or .. v0)" and 9 more for each "(add .. v0)". */
    private static int chain(WordSolver x, int ors, int adds) {
        int node = x.binary(6, x.variable(8), 0);
        for (int k = 0; k < ors + adds; k++) {
            node = x.binary(k < ors ? 6 : 2, node, 0);
        }
        return node;
    }

    private static void promise38Numbers() {
        WordSolver x = new WordSolver();
        int node = chain(x, 8, 4);
        due("38: 110 characters", 110, x.write(node));
        due("38: a number of two digits makes 120", 120, x.write(x.binary(6, node, x.constant(8, 99))));
        int three = x.binary(6, node, x.constant(8, 100));
        dueState("38: a number of three digits makes 121", () -> x.write(three));
        WordSolver y = new WordSolver();
        int other = chain(y, 7, 5);
        due("38: 111 characters", 111, y.write(other));
        due("38: a number of one digit makes 120", 120, y.write(y.binary(6, other, y.constant(8, 9))));
        int two = y.binary(6, other, y.constant(8, 10));
        dueState("38: a number of two digits makes 121", () -> y.write(two));
    }

    private static void promise39Character() {
        WordSolver x = new WordSolver();
        Solvers.type(x, "(~ ");
        due("39: first", 40, x.character(0));
        due("39: second", 126, x.character(1));
        due("39: third", 32, x.character(2));
        for (int index : new int[] {3, -1, 119, 120, MIN, MAX}) {
            due("39: character " + index, -1, x.character(index));
        }
        for (int k = 3; k < 120; k++) {
            x.append(33 + k % 90);
        }
        due("39: last", 33 + 119 % 90, x.character(119));
        due("39: behind the last", -1, x.character(120));
    }

    private static void promise40Undo() {
        WordSolver x = new WordSolver();
        dueState("40: nothing saved", x::undo);
        int a = x.variable(1);
        int b = x.variable(4);
        x.require(a);
        x.push();
        x.require(a);
        x.wish(a, 2);
        x.input(1, 9);
        due("40: five states, the oldest ones are dropped", 4, x.undo());
        due("40: input", 0, x.value(b, false));
        due("40: three", 3, x.undo());
        due("40: wishes", 0, x.gain());
        due("40: two", 2, x.undo());
        due("40: constraints", 1, x.constraints());
        due("40: one", 1, x.undo());
        dueState("40: level", x::pop);
        due("40: none", 0, x.undo());
        due("40: constraints", 0, x.constraints());
        due("40: nodes stay", 2, x.nodes());
        dueState("40: nothing saved", x::undo);
        x.append('v');
        x.constant(1, 0);
        x.append('1');
        x.undo();
        due("40: the text is not part of the state", 2, x.clearText());
        due("40: another node takes the number", 2, x.constant(4, 3));
        due("40: another node takes the number", 3, x.info(2, 5));
        x.require(a);
        due("40: witness before", 1, x.witness(0));
        x.undo();
        due("40: witness after", 0, x.witness(0));
        WordSolver y = new WordSolver();
        for (int k = 0; k < 9; k++) {
            y.constant(8, k);
        }
        due("40: at most five", 5, saved(y));
        due("40: the oldest ones stay made", 4, y.nodes());
        WordSolver z = new WordSolver();
        z.variable(2);
        z.variable(3);
        z.input(1, 5);
        z.wish(z.binary(13, 0, 0), 9);
        z.clearWishes();
        z.undo();
        due("40: cleared wishes are back", 9, z.gain());
        z.undo();
        z.undo();
        due("40: input stays", 5, z.value(1, false));
        z.undo();
        due("40: input is back", 0, z.value(1, false));
        z.undo();
        due("40: a variable fewer", 1, z.variables());
        due("40: another width", 1, z.variable(7));
        due("40: its words", 128, z.values(1, 200));
        due("40: ordered anew", 127, z.extremeWitness(1, true, 1));
        due("40: 2 + 7 bits", 200, z.models(200));
    }

    private static void promise40UndoOverwritten() {
        WordSolver x = new WordSolver();
        int a = x.variable(1);
        int not = x.unary(19, a);
        x.push();
        x.push();
        x.require(a);
        x.pop();
        x.require(not);
        due("40: another constraint in its place", not, x.constraint(0, false));
        due("40: of another level", 1, x.constraint(0, true));
        x.undo();
        x.undo();
        due("40: the first one is back", a, x.constraint(0, false));
        due("40: its level is back", 2, x.constraint(0, true));
        x.undo();
        x.wish(a, 2);
        x.clearWishes();
        x.wish(not, 7);
        due("40: another wish in its place", 7, x.gain());
        due("40: another wish in its place", 0, x.bestWitness(0));
        x.undo();
        x.undo();
        due("40: its weight is back", 2, x.gain());
        due("40: its node is back", 1, x.bestWitness(0));
    }

    private static void promise41Digest() {
        WordSolver x = new WordSolver();
        // 1862, then 0 nodes, 0 constraints, level 0, 0 wishes, 1, length 0, 0 states
        due("41: a new object", ((((((1862L * 31) * 31) * 31) * 31) * 31 + 1) * 31) * 31, x.digest());
        int a = x.variable(3);
        int b = x.variable(5);
        int c = x.constant(3, 6);
        int less = x.binary(14, a, c);
        int not = x.unary(19, x.slice(b, 0, 0));
        x.choice(less, a, c);
        x.input(0, 5);
        x.input(1, 30);
        due("41: nodes and inputs", Solvers.digestBy(x, 0, new int[0][], 0, 5), x.digest());
        x.require(not);
        x.push();
        x.push();
        x.require(less);
        x.wish(less, 4);
        x.wish(not, 9);
        int[][] wishes = {{less, 4}, {not, 9}};
        due("41: constraints, levels and wishes", Solvers.digestBy(x, 2, wishes, 0, 5), x.digest());
        x.write(less);
        due("41: text", Solvers.digestBy(x, 2, wishes, 11, 5), x.digest());
        x.undo();
        due("41: saved states", Solvers.digestBy(x, 2, new int[][] {{less, 4}}, 11, 4), x.digest());
        due("41: asking changes nothing", x.digest(), x.digest());
    }

    private static void promise41NoModel() {
        WordSolver x = new WordSolver();
        int a = x.variable(3);
        int less = x.binary(14, a, x.constant(3, 6));
        x.push();
        x.push();
        x.require(less);
        x.wish(less, 4);
        x.write(less);
        x.require(x.constant(1, 0));
        due("41: no model", Solvers.digestBy(x, 2, new int[][] {{less, 4}}, 11, 5), x.digest());
        long before = x.digest();
        Check.outcome(() -> x.require(a));
        Check.outcome(() -> x.read());
        Check.outcome(() -> x.slice(a, 0, 1));
        Check.outcome(() -> x.append(7));
        x.core();
        x.gain();
        x.values(a, 3);
        due("41: what throws or asks changes nothing, but read()", Solvers.digestBy(x, 2, new int[][] {{less, 4}}, 11, 5),
                x.digest());
        due("41: saved states are as many as before", before, x.digest());
    }

    private static void promisesOnNodes() {
        promise1NewObject();
        promise2Variable();
        promise3Constant();
        promise4Binary();
        promise5Unary();
        promise6Slice();
        promise7Extend();
        promise8Choice();
        promise9Nodes();
        promise10Variables();
        promise11Info();
        promise12Input();
        promise13Value();
    }

    private static void promisesOnModels() {
        promise14Require();
        promise15Push();
        promise16Pop();
        promise16PopAlone();
        promise17Constraints();
        promise18Constraint();
        promise19Satisfiable();
        promise20Witness();
        promise21Extreme();
        promise22ExtremeWitness();
        promise23Fixed();
        promise24Models();
        promise25Values();
        promise26ValueAt();
        promise27Equivalent();
        promise28Counterexample();
        promise29Core();
        promise30Wish();
        promise31ClearWishes();
        promise32Gain();
        promise33BestWitness();
    }

    private static void promisesOnTexts() {
        promise34Append();
        promise35ClearText();
        promise36SyntaxError();
        promise37Read();
        promise38Write();
        promise39Character();
        promise40Undo();
        promise40UndoOverwritten();
        promise41Digest();
        promise41NoModel();
    }

    public static void main(String[] args) {
        promisesOnNodes();
        promisesOnModels();
        promisesOnTexts();
        CHECK.close("promises");
    }
}
