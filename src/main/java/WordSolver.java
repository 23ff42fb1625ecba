/**
 * A solver for constraints over words of fixed width; ../shared/DOC.md promises what each method does.
 *
 * All assignments are tried, 64 at a time: an assignment has a number, whose highest bits are the word of variable 0,
 * so that ascending numbers are the order of the models. 64 assignments with following numbers are a block; a long
 * holds one bit of a node for each of them (a plane), and nodes are evaluated plane by plane.
 */
public final class WordSolver {
    public static final int NONE = -1;

    private static final int MAX_NODES = 40;
    private static final int MAX_WIDTH = 8;
    private static final int MAX_VARIABLES = 4;
    private static final int MAX_VARIABLE_BITS = 16;
    private static final int MAX_CONSTRAINTS = 20;
    private static final int MAX_LEVEL = 5;
    private static final int MAX_WISHES = 8;
    private static final int MAX_WEIGHT = 9;
    private static final int MAX_LIMIT = 200;
    private static final int MAX_TEXT = 120;
    private static final int MAX_SAVED = 5;
    private static final int BLOCK_BITS = 6;
    private static final int MAX_BLOCKS = 1 << (MAX_VARIABLE_BITS - BLOCK_BITS);

    private static final int CONSTANT = 0;
    private static final int VARIABLE = 1;
    private static final int SUM = 2;
    private static final int DIFFERENCE = 3;
    private static final int PRODUCT = 4;
    private static final int AND = 5;
    private static final int OR = 6;
    private static final int EXCLUSIVE_OR = 7;
    private static final int SHIFTED_LEFT = 8;
    private static final int SHIFTED_RIGHT = 9;
    private static final int SHIFTED_SIGNED = 10;
    private static final int QUOTIENT = 11;
    private static final int REMAINDER = 12;
    private static final int EQUAL = 13;
    private static final int LESS = 14;
    private static final int LESS_OR_EQUAL = 15;
    private static final int SIGNED_LESS = 16;
    private static final int SIGNED_LESS_OR_EQUAL = 17;
    private static final int JOINED = 18;
    private static final int INVERTED = 19;
    private static final int NEGATIVE = 20;
    private static final int SLICE = 21;
    private static final int EXTENDED = 22;
    private static final int EXTENDED_SIGNED = 23;
    private static final int CHOICE = 24;

    /** What a node's row in the graph holds, numbered as info() asks for it. */
    private static final int KIND = 0;
    private static final int WIDTH = 1;
    private static final int FIRST = 2;
    private static final int SECOND = 3;
    private static final int THIRD = 4;
    private static final int NUMBER = 5;
    private static final int HIGH = 6;
    private static final int LOW = 7;
    private static final int COLUMNS = 8;

    private final Graph graph = new Graph();
    private final State now = new State();
    private final History history = new History();
    private final Lanes lanes = new Lanes(graph);
    private final Search search = new Search(graph, now, lanes);
    private final Text text = new Text();
    private final Parser parser = new Parser(text);
    private final Writer writer = new Writer(graph, text);

    public WordSolver() {
    }

    // ---- nodes

    public int variable(int width) throws IllegalArgumentException, IllegalStateException {
        if (!isWidth(width)) {
            throw new IllegalArgumentException("no such width");
        }
        int before = graph.count();
        int node = keepMade(before, graph.makeVariable(width));
        now.inputs[graph.variableCount() - 1] = 0;
        search.forget();
        return node;
    }

    public int constant(int width, int value) throws IllegalArgumentException, IllegalStateException {
        if (!isWord(width, value)) {
            throw new IllegalArgumentException("no such width or value");
        }
        int before = graph.count();
        return keepMade(before, graph.makeConstant(width, value));
    }

    public int binary(int kind, int first, int second)
            throws IllegalArgumentException, IndexOutOfBoundsException, IllegalStateException {
        if (kind < SUM || kind > JOINED) {
            throw new IllegalArgumentException("no kind with two operands");
        }
        demandNode(first);
        demandNode(second);
        int before = graph.count();
        return keepMade(before, graph.makeBinary(kind, first, second));
    }

    public int unary(int kind, int operand)
            throws IllegalArgumentException, IndexOutOfBoundsException, IllegalStateException {
        if (kind != INVERTED && kind != NEGATIVE) {
            throw new IllegalArgumentException("neither 19 nor 20");
        }
        demandNode(operand);
        int before = graph.count();
        return keepMade(before, graph.makeUnary(kind, operand));
    }

    public int slice(int operand, int high, int low)
            throws IndexOutOfBoundsException, IllegalArgumentException, IllegalStateException {
        demandNode(operand);
        if (!graph.canSlice(operand, high, low)) {
            throw new IllegalArgumentException("no such bits");
        }
        int before = graph.count();
        return keepMade(before, graph.makeSlice(operand, high, low));
    }

    public int extend(int operand, int width, boolean signed)
            throws IndexOutOfBoundsException, IllegalArgumentException, IllegalStateException {
        demandNode(operand);
        if (!graph.canExtend(operand, width)) {
            throw new IllegalArgumentException("no greater width");
        }
        int before = graph.count();
        return keepMade(before, graph.makeExtended(signed ? EXTENDED_SIGNED : EXTENDED, operand, width));
    }

    public int choice(int condition, int first, int second) throws IndexOutOfBoundsException, IllegalStateException {
        demandNode(condition);
        demandNode(first);
        demandNode(second);
        int before = graph.count();
        return keepMade(before, graph.makeChoice(condition, first, second));
    }

    public int nodes() {
        return graph.count();
    }

    public int variables() {
        return graph.variableCount();
    }

    public int info(int node, int what) throws IndexOutOfBoundsException, IllegalArgumentException {
        demandNode(node);
        if (what < 0 || what > COLUMNS) {
            throw new IllegalArgumentException("nothing is known by that number");
        }
        return what == COLUMNS ? Long.bitCount(graph.cone(node)) : graph.get(node, what);
    }

    public int input(int variable, int value) throws IndexOutOfBoundsException, IllegalArgumentException {
        demandVariable(variable);
        if (!isWord(graph.variableWidth(variable), value)) {
            throw new IllegalArgumentException("no word of the variable's width");
        }
        remember();
        int before = now.inputs[variable];
        now.inputs[variable] = value;
        return before;
    }

    public int value(int node, boolean signed) throws IndexOutOfBoundsException {
        demandNode(node);
        int assignment = graph.assignment(now.inputs);
        lanes.run(assignment >> BLOCK_BITS, graph.cone(node));
        int word = lanes.wordAt(node, assignment);
        return signed ? signedWord(word, graph.get(node, WIDTH)) : word;
    }

    // ---- constraints

    public int require(int node) throws IndexOutOfBoundsException, IllegalArgumentException, IllegalStateException {
        demandNode(node);
        if (graph.get(node, WIDTH) != 1) {
            throw new IllegalArgumentException("a constraint has the width 1");
        }
        if (now.constraintCount >= MAX_CONSTRAINTS) {
            throw new IllegalStateException("too many constraints");
        }
        remember();
        search.forget();
        return now.addConstraint(node);
    }

    public int push() throws IllegalStateException {
        if (now.level >= MAX_LEVEL) {
            throw new IllegalStateException("too many levels");
        }
        remember();
        now.level++;
        return now.level;
    }

    public int pop() throws IllegalStateException {
        if (now.level <= 0) {
            throw new IllegalStateException("level 0 stays");
        }
        remember();
        search.forget();
        return now.dropLevel();
    }

    public int constraints() {
        return now.constraintCount;
    }

    public int constraint(int k, boolean level) throws IndexOutOfBoundsException {
        if (k < 0 || k >= now.constraintCount) {
            throw new IndexOutOfBoundsException("no such constraint");
        }
        return level ? now.constraintLevels[k] : now.constraintNodes[k];
    }

    // ---- models

    public boolean satisfiable() {
        return search.leastModel() != NONE;
    }

    public int witness(int variable) throws IndexOutOfBoundsException {
        demandVariable(variable);
        return graph.variableWord(search.leastModel(), variable);
    }

    public int extreme(int node, boolean greatest, boolean signed)
            throws IndexOutOfBoundsException, IllegalStateException {
        demandNode(node);
        int width = graph.get(node, WIDTH);
        int flip = (greatest ? 0 : fullWord(width)) ^ (signed ? 1 << (width - 1) : 0);
        search.climb(Search.GOAL_NODE, node, NONE, flip);
        if (search.best() == NONE) {
            throw new IllegalStateException("no model");
        }
        int word = search.best() ^ flip;
        return signed ? signedWord(word, width) : word;
    }

    public int extremeWitness(int node, boolean greatest, int variable) throws IndexOutOfBoundsException {
        demandNode(node);
        demandVariable(variable);
        int flip = greatest ? 0 : fullWord(graph.get(node, WIDTH));
        search.climb(Search.GOAL_NODE, node, NONE, flip);
        return graph.variableWord(search.bestModel(), variable);
    }

    public int fixed(int node, boolean values) throws IndexOutOfBoundsException {
        demandNode(node);
        return search.fixedBits(node, values);
    }

    public int models(int limit) throws IllegalArgumentException {
        demandLimit(limit);
        return Math.min(limit, search.countModels());
    }

    public int values(int node, int limit) throws IndexOutOfBoundsException, IllegalArgumentException {
        demandNode(node);
        demandLimit(limit);
        return Math.min(limit, search.collectWords(node));
    }

    public int valueAt(int node, int k) throws IndexOutOfBoundsException {
        demandNode(node);
        if (k < 0 || k >= MAX_LIMIT) {
            return NONE;
        }
        search.collectWords(node);
        return search.collectedWord(k);
    }

    public boolean equivalent(int first, int second) throws IndexOutOfBoundsException, IllegalArgumentException {
        demandNode(first);
        demandNode(second);
        demandSameWidth(first, second);
        search.climb(Search.GOAL_DIFFERENCE, first, second, 0);
        return search.best() != 1;
    }

    public int counterexample(int first, int second, int variable)
            throws IndexOutOfBoundsException, IllegalArgumentException {
        demandNode(first);
        demandNode(second);
        demandVariable(variable);
        demandSameWidth(first, second);
        search.climb(Search.GOAL_DIFFERENCE, first, second, 0);
        return search.best() == 1 ? graph.variableWord(search.bestModel(), variable) : NONE;
    }

    // ---- conflicts and wishes

    public int core() {
        return search.leastModel() == NONE ? search.minimalConflict() : NONE;
    }

    public int wish(int node, int weight)
            throws IndexOutOfBoundsException, IllegalArgumentException, IllegalStateException {
        demandNode(node);
        if (graph.get(node, WIDTH) != 1 || weight < 1 || weight > MAX_WEIGHT) {
            throw new IllegalArgumentException("a wish has the width 1 and a weight from 1 to 9");
        }
        if (now.wishCount >= MAX_WISHES) {
            throw new IllegalStateException("too many wishes");
        }
        remember();
        return now.addWish(node, weight);
    }

    public int clearWishes() {
        remember();
        int before = now.wishCount;
        now.wishCount = 0;
        return before;
    }

    public int gain() {
        search.climb(Search.GOAL_GAIN, NONE, NONE, 0);
        return search.best();
    }

    public int bestWitness(int variable) throws IndexOutOfBoundsException {
        demandVariable(variable);
        search.climb(Search.GOAL_GAIN, NONE, NONE, 0);
        return graph.variableWord(search.bestModel(), variable);
    }

    // ---- texts, state

    public int append(int c) throws IllegalArgumentException, IllegalStateException {
        if (c < 32 || c > 126) {
            throw new IllegalArgumentException("no such character in a text");
        }
        if (text.length() >= MAX_TEXT) {
            throw new IllegalStateException("the text is full");
        }
        text.add(c);
        return text.length();
    }

    public int clearText() {
        int before = text.length();
        text.empty();
        return before;
    }

    public int syntaxError() {
        return parser.errorPosition();
    }

    public int read() throws IllegalArgumentException, IllegalStateException {
        if (parser.errorPosition() != NONE) {
            throw new IllegalArgumentException("the text describes no node");
        }
        int before = graph.count();
        int node = parser.build(graph);
        if (node == NONE) {
            graph.cutTo(before);
        }
        return keepMade(before, node);
    }

    public int write(int node) throws IndexOutOfBoundsException, IllegalStateException {
        demandNode(node);
        if (writer.lengthOf(node) > MAX_TEXT) {
            throw new IllegalStateException("the description is too long");
        }
        text.empty();
        writer.describe(node);
        return text.length();
    }

    public int character(int index) {
        return text.at(index);
    }

    public int undo() throws IllegalStateException {
        if (history.count() == 0) {
            throw new IllegalStateException("no state is saved");
        }
        history.restore(now);
        graph.cutTo(now.nodeCount);
        search.forget();
        return history.count();
    }

    public long digest() {
        long hash = hashNodes(1862);
        for (int v = 0; v < graph.variableCount(); v++) {
            hash = mix(hash, now.inputs[v]);
        }
        hash = hashDemands(hash);
        int least = search.leastModel();
        hash = mix(hash, least == NONE ? 0 : 1);
        for (int v = 0; v < graph.variableCount(); v++) {
            hash = mix(hash, graph.variableWord(least, v));
        }
        hash = mix(hash, text.length());
        return mix(hash, history.count());
    }

    // ---- helpers of the methods above

    private long hashNodes(long start) {
        int assignment = graph.assignment(now.inputs);
        lanes.run(assignment >> BLOCK_BITS, graph.allNodes());
        long hash = mix(start, graph.count());
        for (int node = 0; node < graph.count(); node++) {
            for (int what = 0; what < COLUMNS; what++) {
                hash = mix(hash, graph.get(node, what));
            }
            hash = mix(hash, Long.bitCount(graph.cone(node)));
            hash = mix(hash, lanes.wordAt(node, assignment));
        }
        return hash;
    }

    private long hashDemands(long start) {
        long hash = mix(start, now.constraintCount);
        for (int k = 0; k < now.constraintCount; k++) {
            hash = mix(mix(hash, now.constraintNodes[k]), now.constraintLevels[k]);
        }
        hash = mix(hash, now.level);
        hash = mix(hash, now.wishCount);
        for (int k = 0; k < now.wishCount; k++) {
            hash = mix(mix(hash, now.wishNodes[k]), now.wishWeights[k]);
        }
        return hash;
    }

    private static long mix(long hash, long value) {
        return 31 * hash + value;
    }

    /** The node is made first, as only then it is known whether the call succeeds; the saved state is without it. */
    private int keepMade(int nodesBefore, int node) {
        if (node == NONE) {
            throw new IllegalStateException("the node cannot be made");
        }
        history.save(now, nodesBefore);
        return node;
    }

    private void remember() {
        history.save(now, graph.count());
    }

    private void demandNode(int node) {
        if (!graph.has(node)) {
            throw new IndexOutOfBoundsException("no such node");
        }
    }

    private void demandVariable(int variable) {
        if (!graph.hasVariable(variable)) {
            throw new IndexOutOfBoundsException("no such variable");
        }
    }

    private void demandSameWidth(int first, int second) {
        if (graph.get(first, WIDTH) != graph.get(second, WIDTH)) {
            throw new IllegalArgumentException("the widths are different");
        }
    }

    private static void demandLimit(int limit) {
        if (limit < 1 || limit > MAX_LIMIT) {
            throw new IllegalArgumentException("no such limit");
        }
    }

    private static boolean isWidth(int width) {
        return width >= 1 && width <= MAX_WIDTH;
    }

    private static boolean isWord(int width, int value) {
        return isWidth(width) && value >= 0 && value <= fullWord(width);
    }

    private static int fullWord(int width) {
        return (1 << width) - 1;
    }

    private static int signedWord(int word, int width) {
        return (word >> (width - 1)) == 0 ? word : word - (1 << width);
    }

    /** What the grammar knows of the kinds. */
    private static final class Kinds {
        private static final int CELL = 5;
        /** The words of the kinds 2 to 24 in this order, each filled up with spaces to a cell. */
        private static final String WORDS =
            "add  sub  mul  and  or   xor  shl  shr  sar  div  rem  eq   lt   le   slt  sle  cat  not  neg  slicezext sext ite  ";

        static int operandCount(int kind) {
            if (kind < SUM) {
                return 0;
            }
            if (kind <= JOINED) {
                return 2;
            }
            return kind == CHOICE ? 3 : 1;
        }

        static int digitCount(int kind) {
            if (kind == SLICE) {
                return 2;
            }
            return kind == EXTENDED || kind == EXTENDED_SIGNED ? 1 : 0;
        }

        static int wordLength(int kind) {
            int length = 0;
            while (length < CELL && letter(kind, length) != ' ') {
                length++;
            }
            return length;
        }

        static int letter(int kind, int index) {
            int place = (kind - SUM) * CELL + index;
            return place >= 0 && place < WORDS.length() ? WORDS.charAt(place) : ' ';
        }

        /** The kind whose word stands in the text, or NONE. */
        static int kindOf(Text text, int start, int length) {
            for (int kind = SUM; kind <= CHOICE; kind++) {
                if (isWordOf(kind, text, start, length)) {
                    return kind;
                }
            }
            return NONE;
        }

        private static boolean isWordOf(int kind, Text text, int start, int length) {
            if (length > CELL) {
                return false;
            }
            for (int i = 0; i < CELL; i++) {
                int wanted = i < length ? text.at(start + i) : ' ';
                if (letter(kind, i) != wanted) {
                    return false;
                }
            }
            return true;
        }
    }

    /** The nodes, a row of numbers each; the row behind the last one is the draft of the next node. */
    private static final class Graph {
        private final int[] cells = new int[(MAX_NODES + 1) * COLUMNS];
        private final int[] variableNodes = new int[MAX_VARIABLES];
        /** The width of a variable and of those before it, added up. */
        private final int[] variableEnds = new int[MAX_VARIABLES];
        private int count;
        private int variableCount;

        int count() {
            return count;
        }

        int variableCount() {
            return variableCount;
        }

        boolean has(int node) {
            return node >= 0 && node < count;
        }

        boolean hasVariable(int variable) {
            return variable >= 0 && variable < variableCount;
        }

        int get(int node, int what) {
            boolean known = node >= 0 && node < count && what >= 0 && what < COLUMNS;
            return known ? cells[node * COLUMNS + what] : NONE;
        }

        int width(int node) {
            return get(node, WIDTH);
        }

        int variableNode(int variable) {
            return hasVariable(variable) ? variableNodes[variable] : NONE;
        }

        int variableWidth(int variable) {
            return get(variableNode(variable), WIDTH);
        }

        /** Nodes with greater numbers fall away; operands have smaller numbers, so the others stay whole. */
        void cutTo(int nodeCount) {
            count = Math.min(count, nodeCount);
            while (variableCount > 0 && variableNodes[variableCount - 1] >= count) {
                variableCount--;
            }
        }

        // Each make function answers the node's number, or NONE if there cannot be such a node.

        int makeVariable(int width) {
            int end = variableBits() + width;
            if (variableCount >= MAX_VARIABLES || end > MAX_VARIABLE_BITS) {
                return NONE;
            }
            draft(VARIABLE, width);
            put(NUMBER, variableCount);
            int node = keepDraft();
            if (node != NONE) {
                variableNodes[variableCount] = node;
                variableEnds[variableCount] = end;
                variableCount++;
            }
            return node;
        }

        int makeConstant(int width, int value) {
            if (!isWord(width, value)) {
                return NONE;
            }
            draft(CONSTANT, width);
            put(NUMBER, value);
            return keepDraft();
        }

        int makeBinary(int kind, int first, int second) {
            boolean fits = kind == JOINED
                    ? width(first) + width(second) <= MAX_WIDTH
                    : width(first) == width(second);
            if (!fits) {
                return NONE;
            }
            draft(kind, binaryWidth(kind, first, second));
            put(FIRST, first);
            put(SECOND, second);
            return keepDraft();
        }

        int makeUnary(int kind, int operand) {
            draft(kind, width(operand));
            put(FIRST, operand);
            return keepDraft();
        }

        int makeSlice(int operand, int high, int low) {
            if (!canSlice(operand, high, low)) {
                return NONE;
            }
            draft(SLICE, high - low + 1);
            put(FIRST, operand);
            put(HIGH, high);
            put(LOW, low);
            return keepDraft();
        }

        int makeExtended(int kind, int operand, int width) {
            if (!canExtend(operand, width)) {
                return NONE;
            }
            draft(kind, width);
            put(FIRST, operand);
            return keepDraft();
        }

        int makeChoice(int condition, int first, int second) {
            if (width(condition) != 1 || width(first) != width(second)) {
                return NONE;
            }
            draft(CHOICE, width(first));
            put(FIRST, condition);
            put(SECOND, first);
            put(THIRD, second);
            return keepDraft();
        }

        boolean canSlice(int operand, int high, int low) {
            return 0 <= low && low <= high && high < width(operand);
        }

        boolean canExtend(int operand, int width) {
            return width > width(operand) && width <= MAX_WIDTH;
        }

        private int binaryWidth(int kind, int first, int second) {
            if (kind == JOINED) {
                return width(first) + width(second);
            }
            return kind >= EQUAL ? 1 : width(first);
        }

        private void draft(int kind, int width) {
            for (int what = 0; what < COLUMNS; what++) {
                put(what, NONE);
            }
            put(KIND, kind);
            put(WIDTH, width);
        }

        private void put(int what, int number) {
            cells[count * COLUMNS + what] = number;
        }

        private int keepDraft() {
            for (int node = 0; node < count; node++) {
                if (isDrafted(node)) {
                    return node;
                }
            }
            if (count >= MAX_NODES) {
                return NONE;
            }
            count++;
            return count - 1;
        }

        private boolean isDrafted(int node) {
            for (int what = 0; what < COLUMNS; what++) {
                if (cells[node * COLUMNS + what] != cells[count * COLUMNS + what]) {
                    return false;
                }
            }
            return true;
        }

        long allNodes() {
            return (1L << count) - 1;
        }

        /** The nodes of which a node consists, a bit each. */
        long cone(int node) {
            long found = has(node) ? 1L << node : 0;
            for (int n = node; n >= 0; n--) {
                if ((found >>> n & 1L) != 0) {
                    found |= bitOf(get(n, FIRST)) | bitOf(get(n, SECOND)) | bitOf(get(n, THIRD));
                }
            }
            return found;
        }

        private static long bitOf(int node) {
            return node == NONE ? 0 : 1L << node;
        }

        // Assignments are numbers: the words of the variables side by side, that of variable 0 in the highest bits.

        int variableBits() {
            return variableCount > 0 ? variableEnds[variableCount - 1] : 0;
        }

        /** The lowest bit of a variable's word in an assignment. */
        int placeOf(int variable) {
            return hasVariable(variable) ? variableBits() - variableEnds[variable] : 0;
        }

        int blockCount() {
            return 1 << Math.max(0, variableBits() - BLOCK_BITS);
        }

        /** Which places of a block are assignments at all: not all of them if the variables have few bits. */
        long blockMask() {
            int bits = variableBits();
            return bits >= BLOCK_BITS ? -1L : (1L << (1 << bits)) - 1;
        }

        int assignment(int[] words) {
            int number = 0;
            for (int v = 0; v < variableCount && v < words.length; v++) {
                number |= words[v] << placeOf(v);
            }
            return number;
        }

        /** The word of a variable in an assignment; NONE stands for no assignment. */
        int variableWord(int assignment, int variable) {
            if (assignment == NONE || !hasVariable(variable)) {
                return NONE;
            }
            return assignment >> placeOf(variable) & fullWord(variableWidth(variable));
        }
    }

    /** All that undo brings back; of the nodes their count is enough, as made nodes never change. */
    private static final class State {
        private int nodeCount;
        private int level;
        private int constraintCount;
        private final int[] constraintNodes = new int[MAX_CONSTRAINTS];
        private final int[] constraintLevels = new int[MAX_CONSTRAINTS];
        private int wishCount;
        private final int[] wishNodes = new int[MAX_WISHES];
        private final int[] wishWeights = new int[MAX_WISHES];
        private final int[] inputs = new int[MAX_VARIABLES];

        void copyFrom(State other) {
            nodeCount = other.nodeCount;
            level = other.level;
            constraintCount = other.constraintCount;
            wishCount = other.wishCount;
            System.arraycopy(other.constraintNodes, 0, constraintNodes, 0, MAX_CONSTRAINTS);
            System.arraycopy(other.constraintLevels, 0, constraintLevels, 0, MAX_CONSTRAINTS);
            System.arraycopy(other.wishNodes, 0, wishNodes, 0, MAX_WISHES);
            System.arraycopy(other.wishWeights, 0, wishWeights, 0, MAX_WISHES);
            System.arraycopy(other.inputs, 0, inputs, 0, MAX_VARIABLES);
        }

        int addConstraint(int node) {
            constraintNodes[constraintCount] = node;
            constraintLevels[constraintCount] = level;
            constraintCount++;
            return constraintCount - 1;
        }

        int dropLevel() {
            int before = constraintCount;
            while (constraintCount > 0 && constraintLevels[constraintCount - 1] == level) {
                constraintCount--;
            }
            level--;
            return before - constraintCount;
        }

        int addWish(int node, int weight) {
            wishNodes[wishCount] = node;
            wishWeights[wishCount] = weight;
            wishCount++;
            return wishCount;
        }
    }

    /** The saved states, the oldest one first; the objects are used again. */
    private static final class History {
        private final State[] saved = new State[MAX_SAVED];
        private int count;

        History() {
            for (int i = 0; i < MAX_SAVED; i++) {
                saved[i] = new State();
            }
        }

        int count() {
            return count;
        }

        void save(State state, int nodeCount) {
            if (count == MAX_SAVED) {
                dropOldest();
            }
            saved[count].copyFrom(state);
            saved[count].nodeCount = nodeCount;
            count++;
        }

        private void dropOldest() {
            State oldest = saved[0];
            for (int i = 1; i < MAX_SAVED; i++) {
                saved[i - 1] = saved[i];
            }
            saved[MAX_SAVED - 1] = oldest;
            count--;
        }

        void restore(State state) {
            if (count > 0) {
                count--;
                state.copyFrom(saved[count]);
            }
        }
    }

    /** Evaluates nodes for the 64 assignments of a block at once; bit j of node n is the plane 8 * n + j. */
    private static final class Lanes {
        /** The planes of the lowest bits of the assignments in a block, the same ones in every block. */
        private static final long[] LOW_BITS = {
            0xAAAAAAAAAAAAAAAAL, 0xCCCCCCCCCCCCCCCCL, 0xF0F0F0F0F0F0F0F0L,
            0xFF00FF00FF00FF00L, 0xFFFF0000FFFF0000L, 0xFFFFFFFF00000000L
        };
        /** A row that belongs to no node: the word that a search wants as great as possible. */
        private static final int GOAL = MAX_NODES * MAX_WIDTH;

        private final Graph graph;
        private final long[] planes = new long[(MAX_NODES + 1) * MAX_WIDTH];
        private final long[] rest = new long[MAX_WIDTH];

        Lanes(Graph graph) {
            this.graph = graph;
        }

        /** Operands have smaller numbers than their nodes, so ascending numbers are the order of evaluation. */
        void run(int block, long wanted) {
            for (int node = 0; node < graph.count(); node++) {
                if ((wanted >>> node & 1L) != 0) {
                    runNode(node, block);
                }
            }
        }

        int wordAt(int node, int assignment) {
            int lane = assignment & fullWord(BLOCK_BITS);
            int word = 0;
            for (int j = 0; j < graph.get(node, WIDTH); j++) {
                word |= (int) (plane(node, j) >>> lane & 1L) << j;
            }
            return word;
        }

        long plane(int node, int bit) {
            return planes[node * MAX_WIDTH + bit];
        }

        long goalPlane(int bit) {
            return planes[GOAL + bit];
        }

        void setGoalToNode(int node, int flip) {
            for (int j = 0; j < graph.get(node, WIDTH); j++) {
                planes[GOAL + j] = plane(node, j) ^ spread(flip, j);
            }
        }

        void setGoalToDifference(int first, int second) {
            planes[GOAL] = differs(first * MAX_WIDTH, second * MAX_WIDTH, graph.get(first, WIDTH));
        }

        void setGoalToGain(State state) {
            for (int j = 0; j < MAX_WIDTH; j++) {
                planes[GOAL + j] = 0;
            }
            for (int k = 0; k < state.wishCount; k++) {
                addToGoal(state.wishWeights[k], plane(state.wishNodes[k], 0));
            }
        }

        private void addToGoal(int weight, long where) {
            long carry = 0;
            for (int j = 0; j < MAX_WIDTH; j++) {
                long x = planes[GOAL + j];
                long y = spread(weight, j) & where;
                planes[GOAL + j] = x ^ y ^ carry;
                carry = x & y | carry & (x ^ y);
            }
        }

        /** A bit of a word that is the same in all lanes. */
        private static long spread(int word, int bit) {
            return -(long) (word >> bit & 1);
        }

        private void runNode(int node, int block) {
            int kind = graph.get(node, KIND);
            int width = graph.get(node, WIDTH);
            int to = node * MAX_WIDTH;
            int a = graph.get(node, FIRST) * MAX_WIDTH;
            int b = graph.get(node, SECOND) * MAX_WIDTH;
            if (kind == CONSTANT) {
                constantWord(to, width, graph.get(node, NUMBER));
            } else if (kind == VARIABLE) {
                variableWord(to, width, graph.placeOf(graph.get(node, NUMBER)), block);
            } else if (kind <= PRODUCT) {
                calculate(kind, to, a, b, width);
            } else if (kind <= EXCLUSIVE_OR) {
                combine(kind, to, a, b, width);
            } else if (kind <= SHIFTED_SIGNED) {
                shift(kind, to, a, b, width);
            } else if (kind <= REMAINDER) {
                divide(kind, to, a, b, width);
            } else if (kind <= SIGNED_LESS_OR_EQUAL) {
                planes[to] = compare(kind, a, b, graph.get(graph.get(node, FIRST), WIDTH));
            } else if (kind == CHOICE) {
                choose(to, a, b, graph.get(node, THIRD) * MAX_WIDTH, width);
            } else {
                rearrange(node, kind, to, a, b);
            }
        }

        private void constantWord(int to, int width, int word) {
            for (int j = 0; j < width; j++) {
                planes[to + j] = spread(word, j);
            }
        }

        private void variableWord(int to, int width, int place, int block) {
            for (int j = 0; j < width; j++) {
                int bit = place + j;
                planes[to + j] = bit < BLOCK_BITS ? LOW_BITS[bit] : spread(block, bit - BLOCK_BITS);
            }
        }

        private void calculate(int kind, int to, int a, int b, int width) {
            if (kind == SUM) {
                add(to, a, b, width);
            } else if (kind == DIFFERENCE) {
                subtract(to, a, b, width);
            } else {
                multiply(to, a, b, width);
            }
        }

        private void add(int to, int a, int b, int width) {
            long carry = 0;
            for (int j = 0; j < width; j++) {
                long x = planes[a + j];
                long y = planes[b + j];
                planes[to + j] = x ^ y ^ carry;
                carry = x & y | carry & (x ^ y);
            }
        }

        private void subtract(int to, int a, int b, int width) {
            long borrow = 0;
            for (int j = 0; j < width; j++) {
                long x = planes[a + j];
                long y = planes[b + j];
                planes[to + j] = x ^ y ^ borrow;
                borrow = ~x & (y | borrow) | y & borrow;
            }
        }

        private void multiply(int to, int a, int b, int width) {
            for (int j = 0; j < width; j++) {
                planes[to + j] = planes[a + j] & planes[b];
            }
            for (int i = 1; i < width; i++) {
                long factor = planes[b + i];
                long carry = 0;
                for (int j = i; j < width; j++) {
                    long x = planes[to + j];
                    long y = planes[a + j - i] & factor;
                    planes[to + j] = x ^ y ^ carry;
                    carry = x & y | carry & (x ^ y);
                }
            }
        }

        private void combine(int kind, int to, int a, int b, int width) {
            for (int j = 0; j < width; j++) {
                long x = planes[a + j];
                long y = planes[b + j];
                if (kind == AND) {
                    planes[to + j] = x & y;
                } else if (kind == OR) {
                    planes[to + j] = x | y;
                } else {
                    planes[to + j] = x ^ y;
                }
            }
        }

        /** Bit i of the second operand shifts by 2^i places, so the lanes are shifted in one step for each bit. */
        private void shift(int kind, int to, int a, int b, int width) {
            long fill = kind == SHIFTED_SIGNED ? planes[a + width - 1] : 0;
            for (int j = 0; j < width; j++) {
                planes[to + j] = planes[a + j];
            }
            for (int i = 0; i < width; i++) {
                if (kind == SHIFTED_LEFT) {
                    shiftLeft(to, width, 1 << i, planes[b + i]);
                } else {
                    shiftRight(to, width, 1 << i, planes[b + i], fill);
                }
            }
        }

        private void shiftLeft(int to, int width, int step, long where) {
            for (int j = width - 1; j >= 0; j--) {
                long moved = j >= step ? planes[to + j - step] : 0;
                planes[to + j] = moved & where | planes[to + j] & ~where;
            }
        }

        private void shiftRight(int to, int width, int step, long where, long fill) {
            for (int j = 0; j < width; j++) {
                long moved = j + step < width ? planes[to + j + step] : fill;
                planes[to + j] = moved & where | planes[to + j] & ~where;
            }
        }

        /**
         * Long division: the rest, in the bits i and above, is made smaller by the second operand where that fits in.
         * The second operand 0 always fits in and takes nothing away, so quotient and rest are what the document wants.
         */
        private void divide(int kind, int to, int a, int b, int width) {
            for (int j = 0; j < width; j++) {
                rest[j] = planes[a + j];
            }
            for (int i = width - 1; i >= 0; i--) {
                long fits = ~(borrowFromRest(i, b, width) | anyBit(b, width - i, width));
                takeFromRest(i, b, width, fits);
                planes[to + i] = fits;
            }
            for (int j = 0; j < width && kind == REMAINDER; j++) {
                planes[to + j] = rest[j];
            }
        }

        private long borrowFromRest(int i, int b, int width) {
            long borrow = 0;
            for (int j = i; j < width; j++) {
                long x = rest[j];
                long y = planes[b + j - i];
                borrow = ~x & (y | borrow) | y & borrow;
            }
            return borrow;
        }

        private void takeFromRest(int i, int b, int width, long where) {
            long borrow = 0;
            for (int j = i; j < width; j++) {
                long x = rest[j];
                long y = planes[b + j - i];
                rest[j] = x ^ (y ^ borrow) & where;
                borrow = ~x & (y | borrow) | y & borrow;
            }
        }

        private long anyBit(int b, int from, int width) {
            long any = 0;
            for (int j = from; j < width; j++) {
                any |= planes[b + j];
            }
            return any;
        }

        private long compare(int kind, int a, int b, int width) {
            switch (kind) {
                case EQUAL:
                    return ~differs(a, b, width);
                case LESS:
                    return less(a, b, width, false);
                case LESS_OR_EQUAL:
                    return ~less(b, a, width, false);
                case SIGNED_LESS:
                    return less(a, b, width, true);
                default:
                    return ~less(b, a, width, true);
            }
        }

        private long differs(int a, int b, int width) {
            long any = 0;
            for (int j = 0; j < width; j++) {
                any |= planes[a + j] ^ planes[b + j];
            }
            return any;
        }

        /** Signed words compare as unsigned ones do when their highest bits are turned over. */
        private long less(int a, int b, int width, boolean signed) {
            long borrow = 0;
            for (int j = 0; j < width; j++) {
                long turned = signed && j == width - 1 ? -1L : 0;
                long x = planes[a + j] ^ turned;
                long y = planes[b + j] ^ turned;
                borrow = ~x & (y | borrow) | y & borrow;
            }
            return borrow;
        }

        private void choose(int to, int condition, int first, int second, int width) {
            long where = planes[condition];
            for (int j = 0; j < width; j++) {
                planes[to + j] = planes[first + j] & where | planes[second + j] & ~where;
            }
        }

        private void rearrange(int node, int kind, int to, int a, int b) {
            int width = graph.get(node, WIDTH);
            int operandWidth = graph.get(graph.get(node, FIRST), WIDTH);
            switch (kind) {
                case JOINED:
                    move(to, b, width - operandWidth);
                    move(to + width - operandWidth, a, operandWidth);
                    break;
                case INVERTED:
                    invert(to, a, width);
                    break;
                case NEGATIVE:
                    negate(to, a, width);
                    break;
                case SLICE:
                    move(to, a + graph.get(node, LOW), width);
                    break;
                default:
                    move(to, a, operandWidth);
                    fillUp(to, operandWidth, width, kind == EXTENDED ? 0 : planes[a + operandWidth - 1]);
                    break;
            }
        }

        private void move(int to, int from, int length) {
            for (int j = 0; j < length; j++) {
                planes[to + j] = planes[from + j];
            }
        }

        private void fillUp(int to, int from, int width, long fill) {
            for (int j = from; j < width; j++) {
                planes[to + j] = fill;
            }
        }

        private void invert(int to, int a, int width) {
            for (int j = 0; j < width; j++) {
                planes[to + j] = ~planes[a + j];
            }
        }

        private void negate(int to, int a, int width) {
            long borrow = 0;
            for (int j = 0; j < width; j++) {
                planes[to + j] = planes[a + j] ^ borrow;
                borrow |= planes[a + j];
            }
        }
    }

    /** Looks through all assignments; the models are kept until the constraints or the variables change. */
    private static final class Search {
        private static final int GOAL_NODE = 0;
        private static final int GOAL_DIFFERENCE = 1;
        private static final int GOAL_GAIN = 2;

        private final Graph graph;
        private final State now;
        private final Lanes lanes;
        private final long[] modelLanes = new long[MAX_BLOCKS];
        private boolean known;
        private int least;
        private int best;
        private int bestModel;
        private final boolean[] seen = new boolean[1 << MAX_WIDTH];
        /** For each constraint the assignments by which it is 1; made when the first conflict is looked into. */
        private long[] rows;

        Search(Graph graph, State now, Lanes lanes) {
            this.graph = graph;
            this.now = now;
            this.lanes = lanes;
        }

        void forget() {
            known = false;
        }

        int leastModel() {
            findModels();
            return least;
        }

        private void findModels() {
            if (known) {
                return;
            }
            long wanted = constraintCones();
            long mask = graph.blockMask();
            int blocks = graph.blockCount();
            least = NONE;
            for (int block = 0; block < blocks; block++) {
                lanes.run(block, wanted);
                modelLanes[block] = mask & allConstraints();
                if (least == NONE && modelLanes[block] != 0) {
                    least = firstIn(block, modelLanes[block]);
                }
            }
            known = true;
        }

        private long constraintCones() {
            long cones = 0;
            for (int k = 0; k < now.constraintCount; k++) {
                cones |= graph.cone(now.constraintNodes[k]);
            }
            return cones;
        }

        private long allConstraints() {
            long all = -1L;
            for (int k = 0; k < now.constraintCount; k++) {
                all &= lanes.plane(now.constraintNodes[k], 0);
            }
            return all;
        }

        /** The assignment of the lowest lane of some. */
        private static int firstIn(int block, long some) {
            return (block << BLOCK_BITS) + Long.bitCount((some & -some) - 1);
        }

        int countModels() {
            findModels();
            int count = 0;
            for (int block = 0; block < graph.blockCount(); block++) {
                count += Long.bitCount(modelLanes[block]);
            }
            return count;
        }

        /** The greatest goal in a model, or NONE: what the last climb found. */
        int best() {
            return best;
        }

        /** The least model with the greatest goal, or NONE. */
        int bestModel() {
            return bestModel;
        }

        /** Looks for the model with the greatest goal; the bits of a node's value in flip are turned over before. */
        void climb(int goal, int first, int second, int flip) {
            findModels();
            best = NONE;
            bestModel = NONE;
            int width = goalWidth(goal, first);
            long wanted = goal == GOAL_GAIN ? wishCones() : graph.cone(first) | graph.cone(second);
            int blocks = graph.blockCount();
            for (int block = 0; block < blocks && best != fullWord(width); block++) {
                if (modelLanes[block] != 0) {
                    lanes.run(block, wanted);
                    setGoal(goal, first, second, flip);
                    climbIn(block, width);
                }
            }
        }

        private int goalWidth(int goal, int node) {
            if (goal == GOAL_NODE) {
                return graph.width(node);
            }
            return goal == GOAL_GAIN ? MAX_WIDTH : 1;
        }

        private long wishCones() {
            long cones = 0;
            for (int k = 0; k < now.wishCount; k++) {
                cones |= graph.cone(now.wishNodes[k]);
            }
            return cones;
        }

        private void setGoal(int goal, int first, int second, int flip) {
            if (goal == GOAL_NODE) {
                lanes.setGoalToNode(first, flip);
            } else if (goal == GOAL_DIFFERENCE) {
                lanes.setGoalToDifference(first, second);
            } else {
                lanes.setGoalToGain(now);
            }
        }

        private void climbIn(int block, int width) {
            long left = modelLanes[block];
            int word = 0;
            for (int j = width - 1; j >= 0; j--) {
                long ones = left & lanes.goalPlane(j);
                if (ones != 0) {
                    left = ones;
                    word |= 1 << j;
                }
            }
            if (word > best) {
                best = word;
                bestModel = firstIn(block, left);
            }
        }

        int fixedBits(int node, boolean asValues) {
            findModels();
            if (least == NONE) {
                return NONE;
            }
            int width = graph.width(node);
            long wanted = graph.cone(node);
            int ones = 0;
            int zeros = 0;
            for (int block = 0; block < graph.blockCount(); block++) {
                if (modelLanes[block] != 0) {
                    lanes.run(block, wanted);
                    ones |= bitsThatOccur(node, width, modelLanes[block], 0);
                    zeros |= bitsThatOccur(node, width, modelLanes[block], -1L);
                }
            }
            return asValues ? ones & ~zeros : fullWord(width) & ~(ones & zeros);
        }

        private int bitsThatOccur(int node, int width, long where, long turned) {
            int bits = 0;
            for (int j = 0; j < width; j++) {
                if (((lanes.plane(node, j) ^ turned) & where) != 0) {
                    bits |= 1 << j;
                }
            }
            return bits;
        }

        /** Marks the values that a node has in models and counts them. */
        int collectWords(int node) {
            findModels();
            for (int i = 0; i < seen.length; i++) {
                seen[i] = false;
            }
            int most = 1 << graph.width(node);
            long wanted = graph.cone(node);
            int count = 0;
            for (int block = 0; block < graph.blockCount() && count < most; block++) {
                if (modelLanes[block] != 0) {
                    lanes.run(block, wanted);
                    count += markWords(node, block);
                }
            }
            return count;
        }

        private int markWords(int node, int block) {
            int marked = 0;
            for (int lane = 0; lane < 1 << BLOCK_BITS; lane++) {
                if ((modelLanes[block] >>> lane & 1L) != 0) {
                    int word = lanes.wordAt(node, lane);
                    if (!seen[word]) {
                        seen[word] = true;
                        marked++;
                    }
                }
            }
            return marked;
        }

        /** The k-th of the marked values, or NONE. */
        int collectedWord(int k) {
            int left = k;
            for (int word = 0; word < seen.length; word++) {
                if (seen[word]) {
                    if (left == 0) {
                        return word;
                    }
                    left--;
                }
            }
            return NONE;
        }

        /** The core, if there is no model. */
        int minimalConflict() {
            long[] filled = filledRows();
            int left = fullWord(now.constraintCount);
            for (int k = 0; k < now.constraintCount; k++) {
                int without = left & ~(1 << k);
                if (isConflict(filled, without)) {
                    left = without;
                }
            }
            return left;
        }

        private long[] filledRows() {
            long[] filled = rows;
            if (filled == null) {
                filled = new long[MAX_CONSTRAINTS * MAX_BLOCKS];
                rows = filled;
            }
            long wanted = constraintCones();
            for (int block = 0; block < graph.blockCount(); block++) {
                lanes.run(block, wanted);
                for (int k = 0; k < now.constraintCount; k++) {
                    filled[k * MAX_BLOCKS + block] = lanes.plane(now.constraintNodes[k], 0);
                }
            }
            return filled;
        }

        private boolean isConflict(long[] filled, int chosen) {
            long mask = graph.blockMask();
            for (int block = 0; block < graph.blockCount(); block++) {
                long left = mask;
                for (int k = 0; k < now.constraintCount; k++) {
                    if ((chosen >> k & 1) != 0) {
                        left &= filled[k * MAX_BLOCKS + block];
                    }
                }
                if (left != 0) {
                    return false;
                }
            }
            return true;
        }
    }

    /** The text: character codes. */
    private static final class Text {
        private final int[] codes = new int[MAX_TEXT];
        private int length;

        int length() {
            return length;
        }

        int at(int index) {
            return index >= 0 && index < length ? codes[index] : NONE;
        }

        void add(int code) {
            if (length < MAX_TEXT) {
                codes[length] = code;
                length++;
            }
        }

        void empty() {
            length = 0;
        }
    }

    /**
     * Reads the text into steps, one for each node that it names, operands ahead of their node. Each step and each
     * parenthesis takes a character of the text at least, so rows as long as the longest text hold them all.
     */
    private static final class Parser {
        private final Text text;
        private int position;
        private int error;
        private final int[] stepKinds = new int[MAX_TEXT];
        private final int[] stepNumbers = new int[MAX_TEXT];
        private final int[] stepWidths = new int[MAX_TEXT];
        private int steps;
        private final int[] openKinds = new int[MAX_TEXT];
        private final int[] openNodes = new int[MAX_TEXT];
        private final int[] openDigits = new int[MAX_TEXT];
        private final int[] openNumbers = new int[MAX_TEXT];
        private int open;
        private final int[] built = new int[MAX_TEXT];

        Parser(Text text) {
            this.text = text;
        }

        /** The syntax error position, or NONE; the steps are whole only if there is none. */
        int errorPosition() {
            position = 0;
            error = NONE;
            steps = 0;
            open = 0;
            for (int taken = 0; taken < MAX_TEXT && error == NONE && position < text.length(); taken++) {
                takeNext();
            }
            if (error != NONE) {
                return error;
            }
            return isWhole() ? NONE : text.length();
        }

        private boolean isWhole() {
            return open == 0 && steps > 0;
        }

        /** Takes a character at least, or sets the error. */
        private void takeNext() {
            if (text.at(position) == ' ') {
                position++;
            } else if (isWhole()) {
                error = position;
            } else if (text.at(position) == '(' && wantsNode()) {
                takeOpening();
            } else if (wantsNode()) {
                takeLeaf();
            } else if (openDigits[open - 1] > 0) {
                takeWantedDigit();
            } else {
                takeClosing();
            }
        }

        private boolean wantsNode() {
            return open == 0 || openNodes[open - 1] > 0;
        }

        private void takeLeaf() {
            if (text.at(position) == 'v' && isDigit(text.at(position + 1))) {
                position++;
                addStep(VARIABLE, takeDigit(), NONE);
            } else if (isDigit(text.at(position))) {
                takeConstant();
            } else {
                error = position;
            }
        }

        private void takeConstant() {
            int number = 0;
            int start = position;
            while (position < text.length() && isDigit(text.at(position))) {
                if (position - start == 3) {
                    error = position;
                    return;
                }
                number = 10 * number + text.at(position) - '0';
                position++;
            }
            skipSpaces();
            if (text.at(position) != ':') {
                error = position;
                return;
            }
            position++;
            skipSpaces();
            addStep(CONSTANT, number, takeDigit());
        }

        private void takeOpening() {
            position++;
            skipSpaces();
            int start = position;
            while (position < text.length() && isWordLetter(position)) {
                position++;
            }
            int kind = Kinds.kindOf(text, start, position - start);
            if (kind == NONE) {
                error = start;
                return;
            }
            openKinds[open] = kind;
            openNodes[open] = Kinds.operandCount(kind);
            openDigits[open] = Kinds.digitCount(kind);
            openNumbers[open] = 0;
            open++;
        }

        private void takeWantedDigit() {
            int top = open - 1;
            openNumbers[top] = 10 * openNumbers[top] + takeDigit();
            openDigits[top]--;
        }

        private void takeClosing() {
            if (text.at(position) != ')') {
                error = position;
                return;
            }
            position++;
            open--;
            addStep(openKinds[open], openNumbers[open], NONE);
        }

        /** A digit that stands alone; any other character, or a digit right behind it, is the error. */
        private int takeDigit() {
            if (!isDigit(text.at(position))) {
                error = position;
                return 0;
            }
            int digit = text.at(position) - '0';
            position++;
            if (isDigit(text.at(position))) {
                error = position;
            }
            return digit;
        }

        private void addStep(int kind, int number, int width) {
            stepKinds[steps] = kind;
            stepNumbers[steps] = number;
            stepWidths[steps] = width;
            steps++;
            if (open > 0) {
                openNodes[open - 1]--;
            }
        }

        private void skipSpaces() {
            while (position < text.length() && text.at(position) == ' ') {
                position++;
            }
        }

        private static boolean isDigit(int c) {
            return c >= '0' && c <= '9';
        }

        private boolean isWordLetter(int index) {
            int c = text.at(index);
            return c >= 'a' && c <= 'z' && !(c == 'v' && isDigit(text.at(index + 1)));
        }

        /** Makes the nodes of the steps; the number of the last one, or NONE if one of them cannot be made. */
        int build(Graph graph) {
            int top = 0;
            for (int step = 0; step < steps; step++) {
                top -= Kinds.operandCount(stepKinds[step]);
                int node = buildStep(graph, step, top);
                if (node == NONE) {
                    return NONE;
                }
                built[top] = node;
                top++;
            }
            return built[0];
        }

        /** The operands of the step are the built nodes from first on. */
        private int buildStep(Graph graph, int step, int first) {
            int kind = stepKinds[step];
            int number = stepNumbers[step];
            if (kind == VARIABLE) {
                return graph.variableNode(number);
            }
            if (kind == CONSTANT) {
                return graph.makeConstant(stepWidths[step], number);
            }
            if (kind == CHOICE) {
                return graph.makeChoice(built[first], built[first + 1], built[first + 2]);
            }
            if (kind == SLICE) {
                return graph.makeSlice(built[first], number / 10, number % 10);
            }
            if (kind == EXTENDED || kind == EXTENDED_SIGNED) {
                return graph.makeExtended(kind, built[first], number);
            }
            if (kind == INVERTED || kind == NEGATIVE) {
                return graph.makeUnary(kind, built[first]);
            }
            return graph.makeBinary(kind, built[first], built[first + 1]);
        }
    }

    /** Puts descriptions of nodes into the text. */
    private static final class Writer {
        private final Graph graph;
        private final Text text;
        private final int[] lengths = new int[MAX_NODES];

        Writer(Graph graph, Text text) {
            this.graph = graph;
            this.text = text;
        }

        /** The length of a node's description, or any number above the limit if it is too long. */
        int lengthOf(int node) {
            for (int n = 0; n <= node && n < MAX_NODES; n++) {
                // lengths can double from node to node, so they are kept small
                lengths[n] = Math.min(MAX_TEXT + 1, lengthByOperands(n));
            }
            return lengths[node];
        }

        private int lengthByOperands(int node) {
            int kind = graph.get(node, KIND);
            if (kind == VARIABLE) {
                return 2;
            }
            if (kind == CONSTANT) {
                int number = graph.get(node, NUMBER);
                return 2 + (number >= 100 ? 3 : number >= 10 ? 2 : 1);
            }
            int length = 2 + Kinds.wordLength(kind) + 2 * Kinds.digitCount(kind);
            for (int k = 0; k < Kinds.operandCount(kind); k++) {
                length += 1 + lengths[graph.get(node, FIRST + k)];
            }
            return length;
        }

        /** Only for descriptions that are not too long: their length keeps the depth below the number of nodes. */
        void describe(int node) {
            describePart(node, 0);
        }

        private void describePart(int node, int depth) {
            if (depth > MAX_NODES) {
                return;
            }
            int kind = graph.get(node, KIND);
            if (kind == VARIABLE) {
                text.add('v');
                addNumber(graph.get(node, NUMBER));
            } else if (kind == CONSTANT) {
                addNumber(graph.get(node, NUMBER));
                text.add(':');
                addNumber(graph.width(node));
            } else {
                describeWithOperands(node, kind, depth);
            }
        }

        private void describeWithOperands(int node, int kind, int depth) {
            text.add('(');
            addWord(kind);
            for (int k = 0; k < Kinds.operandCount(kind); k++) {
                text.add(' ');
                describePart(graph.get(node, FIRST + k), depth + 1);
            }
            addDigits(node, kind);
            text.add(')');
        }

        private void addWord(int kind) {
            for (int i = 0; i < Kinds.wordLength(kind); i++) {
                text.add(Kinds.letter(kind, i));
            }
        }

        private void addDigits(int node, int kind) {
            if (kind == SLICE) {
                text.add(' ');
                addNumber(graph.get(node, HIGH));
                text.add(' ');
                addNumber(graph.get(node, LOW));
            } else if (Kinds.digitCount(kind) == 1) {
                text.add(' ');
                addNumber(graph.width(node));
            }
        }

        private void addNumber(int number) {
            if (number >= 100) {
                text.add('0' + number / 100);
            }
            if (number >= 10) {
                text.add('0' + number / 10 % 10);
            }
            text.add('0' + number % 10);
        }
    }
}
