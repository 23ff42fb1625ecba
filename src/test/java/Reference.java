import java.util.ArrayList;
import java.util.Arrays;
import java.util.List;
import java.util.TreeSet;

/**
 * The document told once more, one assignment after the other and with the whole Java library, as simple as can be:
 * what WordSolver answers is compared with this. It shares no code and no way of counting with WordSolver.
 */
final class Reference {
    static final int NONE = -1;
    private static final String[] WORDS = {null, null, "add", "sub", "mul", "and", "or", "xor", "shl", "shr", "sar",
        "div", "rem", "eq", "lt", "le", "slt", "sle", "cat", "not", "neg", "slice", "zext", "sext", "ite"};

    /** number: value of a constant or number of a variable; NONE where there is none. */
    record Node(int kind, int width, List<Integer> operands, int number, int high, int low) { }

    record Constraint(int node, int level) { }

    record Wish(int node, int weight) { }

    record Saved(List<Node> nodes, List<Constraint> constraints, int level, List<Wish> wishes, List<Integer> inputs) { }

    private List<Node> nodes = new ArrayList<>();
    private List<Constraint> constraints = new ArrayList<>();
    private int level = 0;
    private List<Wish> wishes = new ArrayList<>();
    private List<Integer> inputs = new ArrayList<>();
    private final List<Saved> saved = new ArrayList<>();
    private String text = "";
    private List<int[]> cachedModels = null;
    private String cacheKey = "";

    // ---- nodes

    private Saved state() {
        return new Saved(new ArrayList<>(nodes), new ArrayList<>(constraints), level, new ArrayList<>(wishes),
                new ArrayList<>(inputs));
    }

    private void save(Saved state) {
        saved.add(state);
        if (saved.size() > 5) {
            saved.remove(0);
        }
    }

    private int intern(Node node) {
        int at = nodes.indexOf(node);
        if (at >= 0) {
            return at;
        }
        if (nodes.size() >= 40) {
            throw new IllegalStateException();
        }
        nodes.add(node);
        return nodes.size() - 1;
    }

    private int make(Node node) {
        Saved before = state();
        int number = intern(node);
        save(before);
        return number;
    }

    private void check(boolean exists) {
        if (!exists) {
            throw new IndexOutOfBoundsException();
        }
    }

    private void argument(boolean good) {
        if (!good) {
            throw new IllegalArgumentException();
        }
    }

    private void possible(boolean good) {
        if (!good) {
            throw new IllegalStateException();
        }
    }

    private boolean isNode(int node) {
        return node >= 0 && node < nodes.size();
    }

    private List<Node> variableNodes() {
        List<Node> found = new ArrayList<>();
        for (Node node : nodes) {
            if (node.kind == 1) {
                found.add(node);
            }
        }
        return found;
    }

    int variable(int width) {
        argument(width >= 1 && width <= 8);
        int sum = width;
        for (Node node : variableNodes()) {
            sum += node.width;
        }
        possible(variableNodes().size() < 4 && sum <= 16 && nodes.size() < 40);
        int node = make(new Node(1, width, List.of(), variableNodes().size(), NONE, NONE));
        inputs.add(0);
        return node;
    }

    int constant(int width, int value) {
        argument(width >= 1 && width <= 8);
        argument(value >= 0 && value < Math.pow(2, width));
        return make(new Node(0, width, List.of(), value, NONE, NONE));
    }

    int binary(int kind, int first, int second) {
        argument(kind >= 2 && kind <= 18);
        check(isNode(first) && isNode(second));
        int one = nodes.get(first).width;
        int two = nodes.get(second).width;
        possible(kind == 18 ? one + two <= 8 : one == two);
        int width = kind == 18 ? one + two : kind >= 13 ? 1 : one;
        return make(new Node(kind, width, List.of(first, second), NONE, NONE, NONE));
    }

    int unary(int kind, int operand) {
        argument(kind == 19 || kind == 20);
        check(isNode(operand));
        return make(new Node(kind, nodes.get(operand).width, List.of(operand), NONE, NONE, NONE));
    }

    int slice(int operand, int high, int low) {
        check(isNode(operand));
        argument(low >= 0 && high >= low && nodes.get(operand).width > high);
        return make(new Node(21, high - low + 1, List.of(operand), NONE, high, low));
    }

    int extend(int operand, int width, boolean signed) {
        check(isNode(operand));
        argument(width > nodes.get(operand).width && width <= 8);
        return make(new Node(signed ? 23 : 22, width, List.of(operand), NONE, NONE, NONE));
    }

    int choice(int condition, int first, int second) {
        check(isNode(condition) && isNode(first) && isNode(second));
        possible(nodes.get(condition).width == 1 && nodes.get(first).width == nodes.get(second).width);
        return make(new Node(24, nodes.get(first).width, List.of(condition, first, second), NONE, NONE, NONE));
    }

    int nodes() {
        return nodes.size();
    }

    int variables() {
        return inputs.size();
    }

    private void collect(int node, TreeSet<Integer> found) {
        if (found.add(node)) {
            for (int operand : nodes.get(node).operands) {
                collect(operand, found);
            }
        }
    }

    int info(int node, int what) {
        check(isNode(node));
        argument(what >= 0 && what <= 8);
        Node n = nodes.get(node);
        if (what >= 2 && what <= 4) {
            return what - 2 < n.operands.size() ? n.operands.get(what - 2) : NONE;
        }
        TreeSet<Integer> parts = new TreeSet<>();
        collect(node, parts);
        int[] rest = {n.kind, n.width, 0, 0, 0, n.number, n.high, n.low, parts.size()};
        return rest[what];
    }

    int input(int variable, int value) {
        check(variable >= 0 && variable < inputs.size());
        argument(value >= 0 && value < 1 << variableNodes().get(variable).width);
        save(state());
        return inputs.set(variable, value);
    }

    private static int signed(int word, int width) {
        return word >= 1 << (width - 1) ? word - (1 << width) : word;
    }

    /** The values of all nodes by an assignment. */
    private int[] evaluate(int[] words) {
        int[] values = new int[nodes.size()];
        for (int i = 0; i < values.length; i++) {
            Node n = nodes.get(i);
            int m = 1 << n.width;
            int a = n.operands.size() > 0 ? values[n.operands.get(0)] : 0;
            int b = n.operands.size() > 1 ? values[n.operands.get(1)] : 0;
            int w = n.operands.size() > 0 ? nodes.get(n.operands.get(0)).width : 0;
            int sa = w > 0 ? signed(a, w) : 0;
            int sb = w > 0 ? signed(b, w) : 0;
            values[i] = Math.floorMod(switch (n.kind) {
                case 0 -> n.number;
                case 1 -> words[n.number];
                case 2 -> a + b;
                case 3 -> a - b;
                case 4 -> a * b;
                case 5 -> a & b;
                case 6 -> a | b;
                case 7 -> a ^ b;
                case 8 -> b >= w ? 0 : a << b;
                case 9 -> b >= w ? 0 : a >> b;
                case 10 -> b >= w ? (sa < 0 ? -1 : 0) : sa >> b;
                case 11 -> b == 0 ? m - 1 : a / b;
                case 12 -> b == 0 ? a : a % b;
                case 13 -> a == b ? 1 : 0;
                case 14 -> a < b ? 1 : 0;
                case 15 -> a <= b ? 1 : 0;
                case 16 -> sa < sb ? 1 : 0;
                case 17 -> sa <= sb ? 1 : 0;
                case 18 -> a * (1 << nodes.get(n.operands.get(1)).width) + b;
                case 19 -> m - 1 - a;
                case 20 -> -a;
                case 21 -> a / (1 << n.low);
                case 22 -> a;
                case 23 -> sa;
                default -> a == 1 ? b : values[n.operands.get(2)];
            }, m);
        }
        return values;
    }

    private int[] words(List<Integer> list) {
        return list.stream().mapToInt(x -> x).toArray();
    }

    int value(int node, boolean signed) {
        check(isNode(node));
        int word = evaluate(words(inputs))[node];
        return signed ? signed(word, nodes.get(node).width) : word;
    }

    // ---- constraints

    int require(int node) {
        check(isNode(node));
        argument(nodes.get(node).width == 1);
        possible(constraints.size() < 20);
        save(state());
        constraints.add(new Constraint(node, level));
        return constraints.size() - 1;
    }

    int push() {
        possible(level < 5);
        save(state());
        return ++level;
    }

    int pop() {
        possible(level > 0);
        save(state());
        int before = constraints.size();
        constraints.removeIf(c -> c.level == level);
        level--;
        return before - constraints.size();
    }

    int constraints() {
        return constraints.size();
    }

    int constraint(int k, boolean wantsLevel) {
        check(k >= 0 && k < constraints.size());
        return wantsLevel ? constraints.get(k).level : constraints.get(k).node;
    }

    // ---- models

    private List<int[]> assignments() {
        List<int[]> all = new ArrayList<>();
        all.add(new int[0]);
        for (Node variable : variableNodes()) {
            List<int[]> longer = new ArrayList<>();
            for (int[] words : all) {
                for (int word = 0; word < 1 << variable.width; word++) {
                    int[] more = Arrays.copyOf(words, words.length + 1);
                    more[words.length] = word;
                    longer.add(more);
                }
            }
            all = longer;
        }
        return all;
    }

    private boolean holds(int[] values, int chosen) {
        for (int k = 0; k < constraints.size(); k++) {
            if ((chosen >> k & 1) == 1 && values[constraints.get(k).node] != 1) {
                return false;
            }
        }
        return true;
    }

    /** The models in ascending order; kept while nodes and constraints are the same, as they are asked for often. */
    private List<int[]> models() {
        String key = nodes.toString() + constraints;
        if (cachedModels == null || !key.equals(cacheKey)) {
            cachedModels = new ArrayList<>();
            for (int[] words : assignments()) {
                if (holds(evaluate(words), -1)) {
                    cachedModels.add(words);
                }
            }
            cacheKey = key;
        }
        return cachedModels;
    }

    boolean satisfiable() {
        return !models().isEmpty();
    }

    int witness(int variable) {
        check(variable >= 0 && variable < inputs.size());
        return models().isEmpty() ? NONE : models().get(0)[variable];
    }

    private int read(int word, int node, boolean signed) {
        return signed ? signed(word, nodes.get(node).width) : word;
    }

    private int[] extremeModel(int node, boolean greatest, boolean signed) {
        int[] best = null;
        int bestWord = 0;
        for (int[] model : models()) {
            int word = read(evaluate(model)[node], node, signed);
            if (best == null || (greatest ? word > bestWord : word < bestWord)) {
                best = model;
                bestWord = word;
            }
        }
        return best;
    }

    int extreme(int node, boolean greatest, boolean signed) {
        check(isNode(node));
        int[] model = extremeModel(node, greatest, signed);
        possible(model != null);
        return read(evaluate(model)[node], node, signed);
    }

    int extremeWitness(int node, boolean greatest, int variable) {
        check(isNode(node) && variable >= 0 && variable < inputs.size());
        int[] model = extremeModel(node, greatest, false);
        return model == null ? NONE : model[variable];
    }

    int fixed(int node, boolean wantsValues) {
        check(isNode(node));
        if (models().isEmpty()) {
            return NONE;
        }
        int first = evaluate(models().get(0))[node];
        int same = (1 << nodes.get(node).width) - 1;
        for (int[] model : models()) {
            same &= ~(evaluate(model)[node] ^ first);
        }
        return wantsValues ? same & first : same;
    }

    int models(int limit) {
        argument(limit >= 1 && limit <= 200);
        return Math.min(limit, models().size());
    }

    private TreeSet<Integer> valueSet(int node) {
        TreeSet<Integer> found = new TreeSet<>();
        for (int[] model : models()) {
            found.add(evaluate(model)[node]);
        }
        return found;
    }

    int values(int node, int limit) {
        check(isNode(node));
        argument(limit >= 1 && limit <= 200);
        return Math.min(limit, valueSet(node).size());
    }

    int valueAt(int node, int k) {
        check(isNode(node));
        List<Integer> all = new ArrayList<>(valueSet(node));
        return k < 0 || k > 199 || k >= all.size() ? NONE : all.get(k);
    }

    private int[] difference(int first, int second) {
        for (int[] model : models()) {
            int[] values = evaluate(model);
            if (values[first] != values[second]) {
                return model;
            }
        }
        return null;
    }

    boolean equivalent(int first, int second) {
        check(isNode(first) && isNode(second));
        argument(nodes.get(first).width == nodes.get(second).width);
        return difference(first, second) == null;
    }

    int counterexample(int first, int second, int variable) {
        check(isNode(first) && isNode(second) && variable >= 0 && variable < inputs.size());
        argument(nodes.get(first).width == nodes.get(second).width);
        int[] model = difference(first, second);
        return model == null ? NONE : model[variable];
    }

    // ---- conflicts and wishes

    private boolean isConflict(int chosen) {
        for (int[] words : assignments()) {
            if (holds(evaluate(words), chosen)) {
                return false;
            }
        }
        return true;
    }

    int core() {
        if (!models().isEmpty()) {
            return NONE;
        }
        int left = (1 << constraints.size()) - 1;
        for (int k = 0; k < constraints.size(); k++) {
            if (isConflict(left ^ 1 << k)) {
                left ^= 1 << k;
            }
        }
        return left;
    }

    int wish(int node, int weight) {
        check(isNode(node));
        argument(nodes.get(node).width == 1 && weight >= 1 && weight <= 9);
        possible(wishes.size() < 8);
        save(state());
        wishes.add(new Wish(node, weight));
        return wishes.size();
    }

    int clearWishes() {
        save(state());
        int before = wishes.size();
        wishes.clear();
        return before;
    }

    private int gainOf(int[] model) {
        int[] values = evaluate(model);
        int gain = 0;
        for (Wish wish : wishes) {
            gain += values[wish.node] * wish.weight;
        }
        return gain;
    }

    private int[] bestModel() {
        int[] best = null;
        int bestGain = NONE;
        for (int[] model : models()) {
            if (gainOf(model) > bestGain) {
                best = model;
                bestGain = gainOf(model);
            }
        }
        return best;
    }

    int gain() {
        int[] best = bestModel();
        return best == null ? NONE : gainOf(best);
    }

    int bestWitness(int variable) {
        check(variable >= 0 && variable < inputs.size());
        int[] best = bestModel();
        return best == null ? NONE : best[variable];
    }

    // ---- texts, state

    int append(int c) {
        argument(c >= 32 && c <= 126);
        possible(text.length() < 120);
        text += (char) c;
        return text.length();
    }

    int clearText() {
        int before = text.length();
        text = "";
        return before;
    }

    /** A syntax error by its position. */
    private static final class Wrong extends Exception {
        private static final long serialVersionUID = 1;
        final int position;

        Wrong(int position) {
            this.position = position;
        }
    }

    /** What a text says: a kind, the nodes in it, and the numbers in it. */
    private record Tree(int kind, List<Tree> parts, List<Integer> numbers) { }

    private int position;

    private char peek() {
        return position < text.length() ? text.charAt(position) : 0;
    }

    private boolean isDigitAt(int index) {
        return index < text.length() && Character.isDigit(text.charAt(index));
    }

    private void spaces() {
        while (peek() == ' ') {
            position++;
        }
    }

    private int digit() throws Wrong {
        if (!isDigitAt(position)) {
            throw new Wrong(position);
        }
        int digit = text.charAt(position++) - '0';
        if (isDigitAt(position)) {
            throw new Wrong(position);
        }
        return digit;
    }

    private void expect(char c) throws Wrong {
        spaces();
        if (peek() != c) {
            throw new Wrong(position);
        }
        position++;
    }

    private Tree parseNode() throws Wrong {
        spaces();
        if (peek() == 'v') {
            if (!isDigitAt(position + 1)) {
                throw new Wrong(position);
            }
            position++;
            return new Tree(1, List.of(), List.of(digit()));
        }
        if (isDigitAt(position)) {
            int start = position;
            while (isDigitAt(position)) {
                position++;
            }
            if (position - start > 3) {
                throw new Wrong(start + 3);
            }
            int number = Integer.parseInt(text.substring(start, position));
            expect(':');
            spaces();
            return new Tree(0, List.of(), List.of(number, digit()));
        }
        expect('(');
        spaces();
        int start = position;
        while (Character.isLowerCase(peek()) && !(peek() == 'v' && isDigitAt(position + 1))) {
            position++;
        }
        int kind = start == position ? NONE : Arrays.asList(WORDS).indexOf(text.substring(start, position));
        if (kind < 0) {
            throw new Wrong(start);
        }
        List<Tree> parts = new ArrayList<>();
        List<Integer> numbers = new ArrayList<>();
        for (int k = 0; k < (kind == 24 ? 3 : kind >= 19 ? 1 : 2); k++) {
            parts.add(parseNode());
        }
        for (int k = 0; k < (kind == 21 ? 2 : kind == 22 || kind == 23 ? 1 : 0); k++) {
            spaces();
            numbers.add(digit());
        }
        expect(')');
        return new Tree(kind, parts, numbers);
    }

    private Tree parse() throws Wrong {
        position = 0;
        Tree tree = parseNode();
        spaces();
        if (position < text.length()) {
            throw new Wrong(position);
        }
        return tree;
    }

    int syntaxError() {
        try {
            parse();
            return NONE;
        } catch (Wrong wrong) {
            return wrong.position;
        }
    }

    private int build(Tree tree) {
        List<Integer> parts = new ArrayList<>();
        for (Tree part : tree.parts) {
            parts.add(build(part));
        }
        List<Integer> n = tree.numbers;
        switch (tree.kind) {
            case 0:
                return constant(n.get(1), n.get(0));
            case 1:
                for (int i = 0; i < nodes.size(); i++) {
                    if (nodes.get(i).kind == 1 && nodes.get(i).number == n.get(0)) {
                        return i;
                    }
                }
                throw new IllegalStateException();
            case 19:
            case 20:
                return unary(tree.kind, parts.get(0));
            case 21:
                return slice(parts.get(0), n.get(0), n.get(1));
            case 22:
            case 23:
                return extend(parts.get(0), n.get(0), tree.kind == 23);
            case 24:
                return choice(parts.get(0), parts.get(1), parts.get(2));
            default:
                return binary(tree.kind, parts.get(0), parts.get(1));
        }
    }

    int read() {
        Tree tree;
        try {
            tree = parse();
        } catch (Wrong wrong) {
            throw new IllegalArgumentException();
        }
        Saved before = state();
        List<Saved> savedBefore = new ArrayList<>(saved);
        int node = NONE;
        try {
            node = build(tree);
        } catch (IllegalArgumentException | IllegalStateException e) {
            restore(before);
        }
        saved.clear();
        saved.addAll(savedBefore);
        possible(node != NONE);
        save(before);
        return node;
    }

    private String describe(int node) {
        Node n = nodes.get(node);
        if (n.kind == 1) {
            return "v" + n.number;
        }
        if (n.kind == 0) {
            return n.number + ":" + n.width;
        }
        StringBuilder all = new StringBuilder("(" + WORDS[n.kind]);
        for (int operand : n.operands) {
            all.append(" ").append(describe(operand));
            if (all.length() > 120) {
                return all.toString();
            }
        }
        if (n.kind == 21) {
            all.append(" ").append(n.high).append(" ").append(n.low);
        } else if (n.kind == 22 || n.kind == 23) {
            all.append(" ").append(n.width);
        }
        return all.append(")").toString();
    }

    int write(int node) {
        check(isNode(node));
        String description = describe(node);
        possible(description.length() <= 120);
        text = description;
        return text.length();
    }

    int character(int index) {
        return index >= 0 && index < text.length() ? text.charAt(index) : NONE;
    }

    private void restore(Saved state) {
        nodes = new ArrayList<>(state.nodes);
        constraints = new ArrayList<>(state.constraints);
        level = state.level;
        wishes = new ArrayList<>(state.wishes);
        inputs = new ArrayList<>(state.inputs);
    }

    int undo() {
        possible(!saved.isEmpty());
        restore(saved.remove(saved.size() - 1));
        return saved.size();
    }

    long digest() {
        List<Long> all = new ArrayList<>();
        all.add((long) nodes.size());
        int[] values = evaluate(words(inputs));
        for (int i = 0; i < nodes.size(); i++) {
            for (int what = 0; what <= 8; what++) {
                all.add((long) info(i, what));
            }
            all.add((long) values[i]);
        }
        for (int word : inputs) {
            all.add((long) word);
        }
        all.add((long) constraints.size());
        for (Constraint c : constraints) {
            all.add((long) c.node);
            all.add((long) c.level);
        }
        all.add((long) level);
        all.add((long) wishes.size());
        for (Wish w : wishes) {
            all.add((long) w.node);
            all.add((long) w.weight);
        }
        all.add(satisfiable() ? 1L : 0L);
        for (int v = 0; v < inputs.size(); v++) {
            all.add((long) witness(v));
        }
        all.add((long) text.length());
        all.add((long) saved.size());
        long h = 1862;
        for (long v : all) {
            h = 31 * h + v;
        }
        return h;
    }
}
