/**
 * The boundary cases that the document names for words and nodes (WORDS, NODES and the promises 1 to 13), each check
 * under the words of the sentence that it is about.
 */
public final class NodeBoundaryTest {
    private static final int MIN = Solvers.MIN;
    private static final int MAX = Solvers.MAX;
    private static final Check CHECK = new Check();

    private static void due(String what, long want, long got) {
        CHECK.due(what, want, got);
    }

    private static int full(int width) {
        return (1 << width) - 1;
    }

    // ---- WORDS

    private static void aWordHasAWidthFrom1To8Bits() {
        String says = "A word has a width from 1 to 8 bits: ";
        for (int width : new int[] {MIN, -1, 0, 9, 10, 33, MAX}) {
            WordSolver x = new WordSolver();
            x.constant(1, 1);
            CHECK.argumentThrown(says + "variable of " + width, () -> x.variable(width));
            CHECK.argumentThrown(says + "constant of " + width, () -> x.constant(width, 0));
            CHECK.argumentThrown(says + "extended to " + width, () -> x.extend(0, width, false));
        }
        for (int width = 1; width <= 8; width++) {
            WordSolver x = new WordSolver();
            due(says + "variable of " + width, width, x.info(x.variable(width), 1));
            due(says + "constant of " + width, width, x.info(x.constant(width, 0), 1));
        }
        for (int width = 0; width <= 9; width++) {
            WordSolver x = Solvers.typed("0:" + width);
            if (width == 0 || width == 9) {
                CHECK.stateThrown(says + "text of a constant of " + width, x::read);
            } else {
                due(says + "text of a constant of " + width, width, x.info(x.read(), 1));
            }
        }
    }

    private static void itIsANumberFrom0() {
        String says = "it is a number from 0 to 2^width - 1: ";
        for (int width = 1; width <= 8; width++) {
            int w = width;
            WordSolver x = new WordSolver();
            x.variable(width);
            for (int value : new int[] {MIN, -1, full(w) + 1, full(w) + 2, MAX}) {
                CHECK.argumentThrown(says + "constant " + value + " of " + w, () -> x.constant(w, value));
                CHECK.argumentThrown(says + "input " + value + " of " + w, () -> x.input(0, value));
            }
            due(says + "least constant", 0, x.info(x.constant(w, 0), 5));
            due(says + "greatest constant", full(w), x.info(x.constant(w, full(w)), 5));
            due(says + "input at first", 0, x.input(0, full(w)));
            due(says + "greatest input", full(w), x.input(0, 0));
            due(says + "least input", 0, x.input(0, 0));
        }
    }

    private static void bit0IsItsLowestBit() {
        for (int width = 1; width <= 8; width++) {
            WordSolver x = new WordSolver();
            int one = x.constant(width, 1);
            int allButOne = x.constant(width, full(width) - 1);
            for (int bit = 0; bit < width; bit++) {
                due("bit 0 is its lowest bit: bit " + bit + " of 1", bit == 0 ? 1 : 0,
                        x.value(x.slice(one, bit, bit), false));
                due("bit 0 is its lowest bit: bit " + bit + " of all but 1", bit == 0 ? 0 : 1,
                        x.value(x.slice(allButOne, bit, bit), false));
            }
        }
    }

    private static void readAsSigned() {
        String says = "Read as signed, a word whose highest bit is 1 stands for this number minus 2^width: ";
        for (int width = 1; width <= 8; width++) {
            int half = 1 << (width - 1);
            int[][] rows = {{0, 0}, {half - 1, half - 1}, {half, -half}, {full(width), -1}};
            WordSolver x = new WordSolver();
            x.variable(width);
            for (int[] row : rows) {
                x.input(0, row[0]);
                due(says + row[0] + " of " + width, row[1], x.value(0, true));
                due("unsigned it stays the number: " + row[0] + " of " + width, row[0], x.value(0, false));
            }
            due(says + "smallest of " + width, -half, x.extreme(0, false, true));
            due(says + "greatest of " + width, half - 1, x.extreme(0, true, true));
        }
    }

    // ---- NODES

    /** A way to make a node that is not there yet, from the nodes of Solvers.withNodes. */
    private interface Maker {
        int make(WordSolver x);
    }

    private static final String[] MAKER_NAMES = {"variable", "constant", "binary", "unary", "slice", "extend zeros",
        "extend signed", "choice", "read"};

    private static Maker maker(int k) {
        switch (k) {
            case 0:
                return x -> x.variable(2);
            case 1:
                return x -> x.constant(8, 0);
            case 2:
                return x -> x.binary(2, 0, 0);
            case 3:
                return x -> x.unary(19, 1);
            case 4:
                return x -> x.slice(1, 3, 0);
            case 5:
                return x -> x.extend(1, 5, false);
            case 6:
                return x -> x.extend(1, 5, true);
            case 7:
                return x -> x.choice(0, 1, 1);
            default:
                return x -> Solvers.read(x, "(neg v1)");
        }
    }

    private static void atMost40Nodes() {
        String says = "There are at most 40 nodes, numbered from 0 in the order in which they were made: ";
        for (int k = 0; k < MAKER_NAMES.length; k++) {
            Maker maker = maker(k);
            WordSolver first = Solvers.withNodes(2);
            due(says + "behind the last one, " + MAKER_NAMES[k], 2, maker.make(first));
            WordSolver last = Solvers.withNodes(39);
            due(says + "the 40th, " + MAKER_NAMES[k], 39, maker.make(last));
            due(says + "40", 40, last.nodes());
            if (k > 0) {
                due("that one is returned, in a full object: " + MAKER_NAMES[k], 39, maker.make(last));
            } else {
                CHECK.stateThrown(says + "a variable is never made already", () -> maker.make(last));
            }
            due(says + "still 40, " + MAKER_NAMES[k], 40, last.nodes());
            WordSolver full = Solvers.withNodes(40);
            Solvers.type(full, "(neg v1)");
            String face = Solvers.face(full);
            CHECK.stateThrown(says + "a 41st, " + MAKER_NAMES[k], () -> maker.make(full));
            due(says + "none was made, " + MAKER_NAMES[k], 40, full.nodes());
            due(says + "no variable, either, " + MAKER_NAMES[k], 2, full.variables());
            CHECK.same("changes nothing: " + MAKER_NAMES[k], face, Solvers.face(full));
            full.undo();
            due(says + "room again, " + MAKER_NAMES[k], 39, maker.make(full));
            due(says + "a variable, if it is one, " + MAKER_NAMES[k], k == 0 ? 3 : 2, full.variables());
        }
    }

    private static void aNodeIsNotMadeTwice() {
        String says = "A node is not made twice: ";
        for (int k = 1; k < MAKER_NAMES.length; k++) {
            WordSolver x = Solvers.withNodes(5);
            int node = maker(k).make(x);
            x.constant(8, 255);
            due(says + MAKER_NAMES[k], node, maker(k).make(x));
            due(says + "no node more, " + MAKER_NAMES[k], 7, x.nodes());
            due("Undoable, also if that one is returned: " + MAKER_NAMES[k], 4, x.undo());
            due("nothing had changed: " + MAKER_NAMES[k], 7, x.nodes());
            x.undo();
            x.undo();
            due("after undo it is made anew: " + MAKER_NAMES[k], 5, x.nodes());
            due("after undo it is made anew: " + MAKER_NAMES[k], 5, maker(k).make(x));
        }
        WordSolver v = new WordSolver();
        due("variables are different nodes", 0, v.variable(4));
        due("variables are different nodes", 1, v.variable(4));
        for (int number = 0; number < 40; number++) {
            WordSolver x = new WordSolver();
            for (int k = 0; k < 40; k++) {
                x.constant(8, k);
            }
            due(says + "whatever its number, " + number, number, x.constant(8, number));
        }
    }

    private static void ifKindWidthOperandsAndOtherNumbersAreThose() {
        String says = "if the kind, width, operands and other numbers would be those of an earlier node: ";
        WordSolver x = new WordSolver();
        int v = x.variable(4);
        int u = x.variable(4);
        int c = x.variable(1);
        int next = 3;
        due(says + "a constant like the number of a variable", next++, x.constant(4, 0));
        due(says + "another width", next++, x.constant(5, 0));
        due(says + "another number", next++, x.constant(4, 1));
        for (int kind = 2; kind <= 18; kind++) {
            due(says + "another kind, " + kind, next++, x.binary(kind, v, u));
        }
        due(says + "another first operand", next++, x.binary(2, u, u));
        due(says + "another second operand", next++, x.binary(2, v, v));
        due(says + "operands in the other order", next++, x.binary(2, u, v));
        due(says + "kind 19", next++, x.unary(19, v));
        due(says + "another kind", next++, x.unary(20, v));
        due(says + "another operand", next++, x.unary(19, u));
        due(says + "a slice of all bits", next++, x.slice(v, 3, 0));
        due(says + "another highest bit", next++, x.slice(v, 2, 0));
        due(says + "another lowest bit", next++, x.slice(v, 2, 1));
        due(says + "same width, other bits", next++, x.slice(v, 3, 2));
        due(says + "another operand", next++, x.slice(u, 3, 2));
        due(says + "extended", next++, x.extend(v, 6, false));
        due(says + "another kind", next++, x.extend(v, 6, true));
        due(says + "another width", next++, x.extend(v, 7, true));
        due(says + "choice", next++, x.choice(c, v, u));
        due(says + "another second operand", next++, x.choice(c, u, u));
        due(says + "another third operand", next++, x.choice(c, v, v));
        x.undo();
        int less = x.binary(14, v, u);
        due(says + "another condition", next - 1, x.choice(less, v, u));
        for (int kind = 2; kind <= 18; kind++) {
            due(says + "the same, " + kind, kind + 4, x.binary(kind, v, u));
        }
    }

    private static WordSolver withVariables(int... widths) {
        WordSolver x = new WordSolver();
        for (int width : widths) {
            x.variable(width);
        }
        return x;
    }

    private static void atMost4NodesAreVariables() {
        String says = "At most 4 nodes are variables, numbered from 0: ";
        WordSolver x = withVariables(1, 1, 1);
        x.constant(8, 3);
        due(says + "the fourth", 4, x.variable(1));
        int[] nodes = {0, 1, 2, 4};
        for (int v = 0; v < 4; v++) {
            due(says + "number " + v, v, x.info(nodes[v], 5));
        }
        CHECK.stateThrown(says + "a fifth", () -> x.variable(1));
        due(says + "four", 4, x.variables());
        x.undo();
        due(says + "three", 3, x.variables());
        due(says + "the fourth again", 4, x.variable(8));
        due(says + "its number", 3, x.info(4, 5));
    }

    private static void theSumOfTheirWidthsIsAtMost16() {
        String says = "the sum of their widths is at most 16: ";
        int[][] whole = {{8, 8}, {4, 4, 8}, {1, 7, 8}, {8, 6, 2}};
        for (int[] widths : whole) {
            WordSolver x = withVariables(widths);
            String face = Solvers.face(x);
            CHECK.stateThrown(says + "16 and 1", () -> x.variable(1));
            CHECK.stateThrown(says + "16 and 8", () -> x.variable(8));
            due(says + "none was made", widths.length, x.variables());
            CHECK.same("a call that throws changes nothing", face, Solvers.face(x));
        }
        int[][] rest = {{8, 7}, {8}, {5, 5, 5}, {4, 4, 4}, {8, 2, 2}, {1, 1, 8}};
        for (int[] widths : rest) {
            int left = 16;
            for (int width : widths) {
                left -= width;
            }
            int free = left;
            WordSolver x = withVariables(widths);
            if (free < 8) {
                CHECK.stateThrown(says + "17", () -> x.variable(free + 1));
            }
            due(says + "16", widths.length, x.variable(free));
        }
        WordSolver undone = withVariables(8, 8);
        undone.undo();
        due(says + "undone, the room is back", 1, undone.variable(7));
        due(says + "undone, the room is back", 2, undone.variable(1));
    }

    /** The value of a node of two constants. */
    private static int calculated(int kind, int width, int a, int b) {
        WordSolver x = new WordSolver();
        int first = x.constant(width, a);
        int second = x.constant(width, b);
        return x.value(x.binary(kind, first, second), false);
    }

    /** The value that a node of two variables has in the only model. */
    private static int inTheModel(int kind, int width, int a, int b) {
        WordSolver x = withVariables(width, width);
        x.require(x.binary(13, 0, x.constant(width, a)));
        x.require(x.binary(13, 1, x.constant(width, b)));
        return x.extreme(x.binary(kind, 0, 1), false, false);
    }

    private static void dueRows(String says, int kind, int width, int[][] rows) {
        for (int[] row : rows) {
            String what = says + "kind " + kind + " of " + row[0] + " and " + row[1] + " in " + width + " bits";
            due(what, row[2], calculated(kind, width, row[0], row[1]));
            due(what + ", in a model", row[2], inTheModel(kind, width, row[0], row[1]));
        }
    }

    private static void allModulo2ToTheWidth() {
        String says = "(all modulo 2^width): ";
        for (int w = 1; w <= 8; w++) {
            int f = full(w);
            int half = 1 << (w - 1);
            dueRows(says, 2, w, new int[][] {{0, 0, 0}, {f, 0, f}, {f, 1, 0}, {1, f, 0}, {f, f, f - 1},
                {half, half, 0}, {half - 1, half, f}});
            dueRows(says, 3, w, new int[][] {{0, 0, 0}, {0, 1, f}, {f, f, 0}, {0, f, 1}, {f, 0, f}, {0, half, half},
                {half, half, 0}});
            dueRows(says, 4, w, new int[][] {{0, f, 0}, {f, 0, 0}, {1, f, f}, {f, 1, f}, {f, f, 1},
                {half, half, w == 1 ? 1 : 0}, {half, f, half}});
            for (int a : new int[] {3, 5, 11, 13, half - 1, half + 1, f - 1}) {
                for (int b : new int[] {3, 7, 11, half - 1, f - 1}) {
                    dueRows(says, 4, w, new int[][] {{a & f, b & f, a * b & f}});
                }
            }
        }
    }

    private static void bitByBit() {
        for (int w = 1; w <= 8; w++) {
            int f = full(w);
            int some = 0b10101010 & f;
            int others = f - some;
            dueRows("(bit by bit): ", 5, w, new int[][] {{0, 0, 0}, {f, f, f}, {some, f, some}, {some, others, 0}});
            dueRows("(bit by bit): ", 6, w, new int[][] {{0, 0, 0}, {f, f, f}, {some, 0, some}, {some, others, f}});
            dueRows("(bit by bit): ", 7, w, new int[][] {{0, 0, 0}, {f, f, 0}, {some, f, others}, {some, others, f}});
        }
    }

    private static void shifts() {
        String says = "bits that are shifted in by 8 and 9 are 0; by more bits than the width all bits are shifted out: ";
        String copies = "shifted right with copies of the highest bit: ";
        for (int w = 1; w <= 8; w++) {
            int f = full(w);
            int half = 1 << (w - 1);
            for (int by : new int[] {0, 1, w - 1, w, w + 1, half, f - 1, f}) {
                if (by > f) {
                    continue;
                }
                boolean out = by >= w;
                dueRows(says, 8, w, new int[][] {{f, by, out ? 0 : f << by & f}, {0, by, 0}, {1, by, out ? 0 : 1 << by}});
                dueRows(says, 9, w, new int[][] {{f, by, out ? 0 : f >> by}, {0, by, 0}, {half, by, out ? 0 : half >> by}});
                dueRows(copies, 10, w, new int[][] {{f, by, f}, {0, by, 0},
                    {half, by, out ? f : f + 1 - (half >> by)}, {half - 1, by, out ? 0 : half - 1 >> by}});
            }
        }
    }

    private static void quotients() {
        String zero = "if the second operand is 0 the quotient is 2^width - 1, and the remainder is the first operand: ";
        String says = "quotient, remainder (rounded down, unsigned): ";
        for (int w = 1; w <= 8; w++) {
            int f = full(w);
            int half = 1 << (w - 1);
            dueRows(zero, 11, w, new int[][] {{0, 0, f}, {1, 0, f}, {f, 0, f}, {half, 0, f}});
            dueRows(zero, 12, w, new int[][] {{0, 0, 0}, {1, 0, 1}, {f, 0, f}, {half, 0, half}});
            dueRows(says, 11, w, new int[][] {{0, 1, 0}, {0, f, 0}, {f, 1, f}, {f, f, 1}, {half, half, 1}});
            dueRows(says, 12, w, new int[][] {{0, 1, 0}, {0, f, 0}, {f, 1, 0}, {f, f, 0}, {half, half, 0}});
            if (w > 1) {
                dueRows(says, 11, w, new int[][] {{f - 1, f, 0}, {f, f - 1, 1}, {f, half, 1}, {half - 1, half, 0}});
                dueRows(says, 12, w, new int[][] {{f - 1, f, f - 1}, {f, f - 1, 1},
                    {f, half, half - 1}, {half - 1, half, half - 1}});
            }
        }
    }

    private static void comparisons() {
        String says = "the value is 1 if this is true, otherwise 0; 16 and 17 read the operands as signed: ";
        for (int w = 1; w <= 8; w++) {
            int f = full(w);
            int half = 1 << (w - 1);
            int[][] pairs = {{0, 0}, {0, 1}, {1, 0}, {f, f}, {0, f}, {f, 0}, {half - 1, half}, {half, half - 1},
                {half, half}, {half, f}, {f, half}, {half - 1, f}, {f - 1, f}, {f, f - 1}};
            for (int[] pair : pairs) {
                int a = pair[0];
                int b = pair[1];
                int sa = a >= half ? a - f - 1 : a;
                int sb = b >= half ? b - f - 1 : b;
                dueRows(says, 13, w, new int[][] {{a, b, a == b ? 1 : 0}});
                dueRows(says, 14, w, new int[][] {{a, b, a < b ? 1 : 0}});
                dueRows(says, 15, w, new int[][] {{a, b, a <= b ? 1 : 0}});
                dueRows(says, 16, w, new int[][] {{a, b, sa < sb ? 1 : 0}});
                dueRows(says, 17, w, new int[][] {{a, b, sa <= sb ? 1 : 0}});
            }
        }
    }

    private static void operandsOfTheSameWidth() {
        String says = "two operands of the same width: ";
        for (int kind = 2; kind <= 17; kind++) {
            int k = kind;
            for (int w = 1; w < 8; w++) {
                WordSolver x = new WordSolver();
                x.constant(w, 1);
                x.constant(w + 1, 1);
                CHECK.stateThrown(says + "kind " + k + " of " + w + " and one more", () -> x.binary(k, 0, 1));
                CHECK.stateThrown(says + "kind " + k + " of " + w + " and one fewer", () -> x.binary(k, 1, 0));
                due(says + "width of kind " + k, k >= 13 ? 1 : w, x.info(x.binary(k, 0, 0), 1));
            }
        }
    }

    private static void joined() {
        String says = "joined: the first one in the higher bits; the width is the sum of both widths: ";
        for (int a = 1; a <= 8; a++) {
            for (int b = 1; b <= 8; b++) {
                WordSolver x = new WordSolver();
                int first = x.constant(a, 1);
                int second = x.constant(b, full(b));
                if (a + b > 8) {
                    CHECK.stateThrown("if their sum is greater than 8: " + a + " and " + b,
                            () -> x.binary(18, first, second));
                } else {
                    int node = x.binary(18, first, second);
                    due(says + "width of " + a + " and " + b, a + b, x.info(node, 1));
                    due(says + "value of " + a + " and " + b, (1 << b) + full(b), x.value(node, false));
                }
            }
        }
    }

    private static void invertedAndNegative() {
        for (int w = 1; w <= 8; w++) {
            int f = full(w);
            int half = 1 << (w - 1);
            WordSolver x = new WordSolver();
            x.variable(w);
            int inverted = x.unary(19, 0);
            int negative = x.unary(20, 0);
            int[][] rows = {{0, f, 0}, {f, 0, 1}, {1, f - 1, f}, {half, f - half, half}};
            for (int[] row : rows) {
                x.input(0, row[0]);
                due("each bit inverted: " + row[0] + " of " + w, row[1], x.value(inverted, false));
                due("negative (modulo 2^width): " + row[0] + " of " + w, row[2], x.value(negative, false));
            }
        }
    }

    private static void slices() {
        String says = "the bits from high down to low of the operand, low as bit 0: ";
        String range = "if not 0 <= low <= high < width of the operand: ";
        for (int w = 1; w <= 8; w++) {
            WordSolver x = new WordSolver();
            int word = 0b11010010 & full(w);
            int operand = x.constant(w, word);
            for (int[] bits : new int[][] {{w - 1, 0}, {w - 1, w - 1}, {0, 0}, {w / 2, w / 2}, {w / 2, 0}}) {
                int node = x.slice(operand, bits[0], bits[1]);
                due(says + "width", bits[0] - bits[1] + 1, x.info(node, 1));
                due(says + "bits " + bits[0] + " to " + bits[1], word >> bits[1] & full(bits[0] - bits[1] + 1),
                        x.value(node, false));
            }
            int[][] refused = {{w, 0}, {w, w}, {w - 1, w}, {w - 1, -1}, {-1, -1}, {-1, 0}, {0, 1}, {MAX, 0}, {MIN, MIN},
                {MAX, MAX}, {MIN, 0}, {0, MIN}, {0, MAX}, {8, 0}};
            for (int[] bits : refused) {
                CHECK.argumentThrown(range + bits[0] + " to " + bits[1] + " of " + w,
                        () -> x.slice(operand, bits[0], bits[1]));
            }
        }
    }

    private static void extended() {
        String says = "extended: the operand with a greater width: ";
        String range = "if width is not greater than that of the operand, or greater than 8: ";
        for (int from = 1; from <= 8; from++) {
            for (int to = -1; to <= 10; to++) {
                WordSolver x = new WordSolver();
                x.variable(from);
                int width = to;
                if (to <= from || to > 8) {
                    CHECK.argumentThrown(range + from + " to " + to, () -> x.extend(0, width, false));
                    CHECK.argumentThrown(range + from + " to " + to, () -> x.extend(0, width, true));
                    continue;
                }
                int zeros = x.extend(0, to, false);
                int copies = x.extend(0, to, true);
                int half = 1 << (from - 1);
                for (int word : new int[] {0, half - 1, half, full(from)}) {
                    x.input(0, word);
                    due(says + "by bits 0, " + word + " of " + from + " to " + to, word, x.value(zeros, false));
                    due(says + "by copies of the highest bit, " + word + " of " + from + " to " + to,
                            word < half ? word : word + full(to) - full(from), x.value(copies, false));
                }
            }
        }
    }

    private static void choices() {
        String says = "the second one if the first one is 1, otherwise the third one: ";
        for (int w = 1; w <= 8; w++) {
            WordSolver x = new WordSolver();
            int c = x.variable(1);
            int one = x.constant(w, 0b10101010 & full(w));
            int all = x.constant(w, 0b01010101 & full(w));
            int node = x.choice(c, all, one);
            int turned = x.choice(c, one, all);
            due(says + "width", w, x.info(node, 1));
            due(says + "0", 0b10101010 & full(w), x.value(node, false));
            due(says + "0, the other way round", 0b01010101 & full(w), x.value(turned, false));
            x.input(0, 1);
            due(says + "1", 0b01010101 & full(w), x.value(node, false));
            due(says + "1, the other way round", 0b10101010 & full(w), x.value(turned, false));
            due(says + "in models", 2, x.values(node, 200));
            if (w > 1) {
                CHECK.stateThrown("if the condition has not width 1: " + w, () -> x.choice(all, one, one));
                CHECK.stateThrown("first and second not the same width: 1 and " + w, () -> x.choice(c, c, all));
                CHECK.stateThrown("first and second not the same width: " + w + " and 1", () -> x.choice(c, all, c));
            }
        }
    }

    // ---- the promises 1 to 13

    private static void aNewObject() {
        String says = "Creates a solver without nodes, constraints and wishes: ";
        WordSolver x = new WordSolver();
        due(says + "nodes", 0, x.nodes());
        due(says + "variables", 0, x.variables());
        due(says + "constraints", 0, x.constraints());
        due(says + "wishes", 0, x.clearWishes());
        CHECK.indexThrown(says + "no node", () -> x.info(0, 0));
        CHECK.indexThrown(says + "no variable", () -> x.witness(0));
        CHECK.indexThrown(says + "no constraint", () -> x.constraint(0, false));
        CHECK.stateThrown("the latest level is 0", new WordSolver()::pop);
        due("the latest level is 0", 1, new WordSolver().push());
        due("the text is empty", 0, new WordSolver().clearText());
        due("the text is empty", WordSolver.NONE, new WordSolver().character(0));
        due("the text is empty", 0, new WordSolver().syntaxError());
        CHECK.argumentThrown("the text is empty", new WordSolver()::read);
        CHECK.stateThrown("no state is saved", new WordSolver()::undo);
        due("NONE = -1", -1, WordSolver.NONE);
    }

    private static void kindsThatAreOutOfRange() {
        WordSolver x = new WordSolver();
        int a = x.variable(4);
        for (int kind : new int[] {MIN, -1, 0, 1, 19, 20, 24, MAX}) {
            CHECK.argumentThrown("if kind is out of range: " + kind, () -> x.binary(kind, a, a));
        }
        due("kind 2 is in range", 2, x.info(x.binary(2, a, a), 0));
        due("kind 18 is in range", 18, x.info(x.binary(18, a, a), 0));
        for (int kind : new int[] {MIN, -1, 0, 2, 18, 21, 22, 23, 24, MAX}) {
            CHECK.argumentThrown("if kind is neither 19 nor 20: " + kind, () -> x.unary(kind, a));
        }
        due("kind 19", 19, x.info(x.unary(19, a), 0));
        due("kind 20", 20, x.info(x.unary(20, a), 0));
    }

    private static void nodesThatDoNotExist() {
        WordSolver x = Solvers.withNodes(5);
        WordSolver none = new WordSolver();
        WordSolver full = Solvers.withNodes(40);
        for (int node : new int[] {MIN, -1, 5, 6, 39, 40, 41, MAX}) {
            String says = "if there is no such node: " + node + ", ";
            CHECK.indexThrown(says + "binary, first", () -> x.binary(2, node, 0));
            CHECK.indexThrown(says + "binary, second", () -> x.binary(2, 0, node));
            CHECK.indexThrown(says + "unary", () -> x.unary(19, node));
            CHECK.indexThrown(says + "slice", () -> x.slice(node, 0, 0));
            CHECK.indexThrown(says + "extend", () -> x.extend(node, 8, true));
            CHECK.indexThrown(says + "choice, condition", () -> x.choice(node, 0, 0));
            CHECK.indexThrown(says + "choice, first", () -> x.choice(0, node, 0));
            CHECK.indexThrown(says + "choice, second", () -> x.choice(0, 0, node));
            CHECK.indexThrown(says + "info", () -> x.info(node, 0));
            CHECK.indexThrown(says + "value", () -> x.value(node, false));
            CHECK.indexThrown(says + "value without nodes", () -> none.value(node, true));
        }
        CHECK.indexThrown("if there is no such node: 0 without nodes", () -> none.value(0, false));
        CHECK.indexThrown("if there is no such node: 40 of 40", () -> full.value(40, false));
        due("the last node of 40 exists", 39, full.value(39, false));
        due("the last node of 5 exists", 4, x.value(4, false));
        x.undo();
        CHECK.indexThrown("a node that was undone does not exist", () -> x.value(4, false));
    }

    private static void nodesAndVariables() {
        due("Returns 0 to 40: none", 0, new WordSolver().nodes());
        due("Returns 0 to 40: all", 40, Solvers.withNodes(40).nodes());
        due("Returns 0 to 4: none", 0, new WordSolver().variables());
        WordSolver x = new WordSolver();
        x.constant(1, 0);
        due("Returns 0 to 4: constants are none", 0, x.variables());
        due("Returns 0 to 4: all", 4, withVariables(4, 4, 4, 4).variables());
    }

    private static void infoOfEachKind() {
        String says = "NONE if the node has no such thing: ";
        WordSolver x = new WordSolver();
        x.variable(1);
        x.variable(4);
        int[][] rows = {
            {0, 1, 1, -1, -1, -1, 0, -1, -1, 1},
            {1, 1, 4, -1, -1, -1, 1, -1, -1, 1},
            {x.constant(4, 0), 0, 4, -1, -1, -1, 0, -1, -1, 1},
            {x.binary(2, 1, 1), 2, 4, 1, 1, -1, -1, -1, -1, 2},
            {x.binary(17, 1, 2), 17, 1, 1, 2, -1, -1, -1, -1, 3},
            {x.binary(18, 0, 1), 18, 5, 0, 1, -1, -1, -1, -1, 3},
            {x.unary(19, 0), 19, 1, 0, -1, -1, -1, -1, -1, 2},
            {x.unary(20, 3), 20, 4, 3, -1, -1, -1, -1, -1, 3},
            {x.slice(1, 0, 0), 21, 1, 1, -1, -1, -1, 0, 0, 2},
            {x.slice(7, 3, 1), 21, 3, 7, -1, -1, -1, 3, 1, 4},
            {x.extend(0, 8, false), 22, 8, 0, -1, -1, -1, -1, -1, 2},
            {x.extend(9, 4, true), 23, 4, 9, -1, -1, -1, -1, -1, 5},
            {x.choice(0, 3, 11), 24, 4, 0, 3, 11, -1, -1, -1, 7},
            {x.choice(4, 0, 0), 24, 1, 4, 0, 0, -1, -1, -1, 5},
        };
        for (int[] row : rows) {
            for (int what = 0; what <= 8; what++) {
                due(says + "what " + what + " of node " + row[0], row[what + 1], x.info(row[0], what));
            }
            for (int what : new int[] {MIN, -1, 9, 10, MAX}) {
                CHECK.argumentThrown("if what is out of range: " + what, () -> x.info(row[0], what));
            }
        }
    }

    private static void differentNodesOfWhichItConsists() {
        String says = "the number of different nodes of which it consists: ";
        WordSolver x = new WordSolver();
        int node = x.variable(1);
        due(says + "itself", 1, x.info(node, 8));
        for (int k = 1; k < 40; k++) {
            node = x.binary(5 + k % 3, node, node);
            due(says + "each one once, " + k, k + 1, x.info(node, 8));
        }
        WordSolver y = Solvers.withNodes(40);
        due(says + "none of the others", 1, y.info(39, 8));
    }

    private static void inputs() {
        WordSolver x = withVariables(1, 8, 3);
        x.constant(8, 9);
        for (int variable : new int[] {MIN, -1, 3, 4, 5, MAX}) {
            CHECK.indexThrown("if there is no such variable: " + variable, () -> x.input(variable, 0));
        }
        CHECK.indexThrown("if there is no such variable: 0 of none", () -> new WordSolver().input(0, 0));
        int[] tops = {1, 255, 7};
        for (int v = 0; v < 3; v++) {
            int number = v;
            CHECK.argumentThrown("if value is no word of its width", () -> x.input(number, tops[number] + 1));
            CHECK.argumentThrown("if value is no word of its width", () -> x.input(number, -1));
            due("Returns the input before, which is 0 at first", 0, x.input(v, tops[v]));
            due("Returns the input before", tops[v], x.input(v, tops[v]));
            due("the input is the value of the variable", tops[v], x.value(v, false));
        }
        due("Undoable, also if nothing changes", 4, x.undo());
        due("the same input as before", 7, x.value(2, false));
        due("Undoable", 3, x.undo());
        due("0 again", 0, x.value(2, false));
        WordSolver y = withVariables(3);
        y.input(0, 7);
        y.undo();
        y.undo();
        y.variable(3);
        due("which is 0 at first: for a new variable after undo, too", 0, y.value(0, false));
        due("which is 0 at first: for a new variable after undo, too", 0, y.input(0, 1));
        due("a second variable does not take the input of the first one", 0, y.input(y.info(y.variable(2), 5), 3));
    }

    private static void values() {
        String says = "the assignment that consists of the inputs: ";
        int[][] widths = {{1}, {5}, {6}, {7}, {8, 8}, {1, 8, 7}, {4, 4, 4, 4}, {1, 1, 1, 1}, {2, 1, 2, 1}};
        for (int[] row : widths) {
            WordSolver x = withVariables(row);
            for (int v = 0; v < row.length; v++) {
                x.input(v, full(row[v]));
                for (int u = 0; u < row.length; u++) {
                    due(says + "variable " + u, u <= v ? full(row[u]) : 0, x.value(u, false));
                }
            }
            Solvers.spoil(x);
            due(says + "also if there is no model", full(row[0]), x.value(0, false));
        }
    }

    public static void main(String[] args) {
        aWordHasAWidthFrom1To8Bits();
        itIsANumberFrom0();
        bit0IsItsLowestBit();
        readAsSigned();
        atMost40Nodes();
        aNodeIsNotMadeTwice();
        ifKindWidthOperandsAndOtherNumbersAreThose();
        atMost4NodesAreVariables();
        theSumOfTheirWidthsIsAtMost16();
        allModulo2ToTheWidth();
        bitByBit();
        shifts();
        quotients();
        comparisons();
        operandsOfTheSameWidth();
        joined();
        invertedAndNegative();
        slices();
        extended();
        choices();
        aNewObject();
        kindsThatAreOutOfRange();
        nodesThatDoNotExist();
        nodesAndVariables();
        infoOfEachKind();
        differentNodesOfWhichItConsists();
        inputs();
        values();
        CHECK.close("boundaries of words and nodes");
    }
}
