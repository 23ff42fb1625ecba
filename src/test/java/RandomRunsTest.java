import java.util.ArrayList;
import java.util.List;
import java.util.Random;

/** Runs of calls that a seeded generator makes up, each answer compared with that of Reference. */
public final class RandomRunsTest {
    private static final int[] ODD = {Integer.MIN_VALUE, -2, -1, 0, 1, 7, 8, 9, 39, 40, 41, 63, 64, 200, 201, 255, 256,
        Integer.MAX_VALUE};
    private static final String[] WORDS = {"add", "sub", "mul", "and", "or", "xor", "shl", "shr", "sar", "div", "rem",
        "eq", "lt", "le", "slt", "sle", "cat", "not", "neg", "slice", "zext", "sext", "ite"};
    private static final String SIGNS = "v0123456789:() abdeilmnoqrstux~!\"";

    /** Of an object; what later calls answer is free. */
    private static final int MOST_CALLS = 512;

    private final Random random;
    private final WordSolver solver = new WordSolver();
    private final Reference reference = new Reference();
    private final List<String> log = new ArrayList<>();
    private final boolean wide;
    private final int calls;

    private RandomRunsTest(long seed, boolean wide, int calls) {
        this.random = new Random(seed);
        this.wide = wide;
        this.calls = calls;
    }

    private int below(int n) {
        return random.nextInt(n);
    }

    private int odd() {
        return ODD[below(ODD.length)];
    }

    /** Mostly a node that exists, the latest ones more often. */
    private int node() {
        int n = reference.nodes();
        if (n == 0 || below(25) == 0) {
            return below(2) == 0 ? odd() : n;
        }
        return below(2) == 0 ? Math.max(0, n - 1 - below(4)) : below(n);
    }

    private int nodeOfWidth(int width) {
        for (int tries = 0; tries < 30; tries++) {
            int node = node();
            if (node >= 0 && node < reference.nodes() && reference.info(node, 1) == width) {
                return node;
            }
        }
        return node();
    }

    private int widthOf(int node) {
        return node >= 0 && node < reference.nodes() ? reference.info(node, 1) : 1;
    }

    private int truth() {
        return nodeOfWidth(1);
    }

    private int variable() {
        int n = reference.variables();
        return n == 0 || below(20) == 0 ? odd() : below(n);
    }

    private int width() {
        return below(20) == 0 ? odd() : 1 + below(wide ? 8 : 4);
    }

    private boolean flag() {
        return random.nextBoolean();
    }

    private int limit() {
        return below(10) == 0 ? odd() : below(3) == 0 ? 200 : 1 + below(20);
    }

    private boolean compare(String name, Check.Call first, Check.Call second) {
        if (log.size() >= MOST_CALLS) {
            return true;
        }
        String want = Check.outcome(second);
        String got = Check.outcome(first);
        log.add(name + " -> " + want);
        if (want.equals(got)) {
            return true;
        }
        for (String line : log) {
            System.out.println("  " + line);
        }
        System.out.println("  the last one answered " + got);
        return false;
    }

    private boolean makeNode() {
        int kind = below(40) == 0 ? odd() : 2 + below(17);
        int a = node();
        int b = kind == 18 ? node() : nodeOfWidth(widthOf(a));
        switch (below(9)) {
            case 0: {
                int w = width();
                int value = below(15) == 0 ? odd() : below(1 << Math.max(0, Math.min(w, 8)));
                return compare("constant(" + w + ", " + value + ")", () -> solver.constant(w, value),
                        () -> reference.constant(w, value));
            }
            case 1: {
                int k = below(30) == 0 ? odd() : 19 + below(2);
                return compare("unary(" + k + ", " + a + ")", () -> solver.unary(k, a), () -> reference.unary(k, a));
            }
            case 2: {
                int high = below(20) == 0 ? odd() : below(widthOf(a) + 1);
                int low = below(20) == 0 ? odd() : below(Math.max(1, Math.min(high, 9) + 1));
                return compare("slice(" + a + ", " + high + ", " + low + ")", () -> solver.slice(a, high, low),
                        () -> reference.slice(a, high, low));
            }
            case 3: {
                int w = below(20) == 0 ? odd() : widthOf(a) + below(4);
                boolean signed = flag();
                return compare("extend(" + a + ", " + w + ", " + signed + ")", () -> solver.extend(a, w, signed),
                        () -> reference.extend(a, w, signed));
            }
            case 4: {
                int c = truth();
                return compare("choice(" + c + ", " + a + ", " + b + ")", () -> solver.choice(c, a, b),
                        () -> reference.choice(c, a, b));
            }
            case 5: {
                int k = 13 + below(5);
                return compare("binary(" + k + ", " + a + ", " + b + ")", () -> solver.binary(k, a, b),
                        () -> reference.binary(k, a, b));
            }
            default:
                return compare("binary(" + kind + ", " + a + ", " + b + ")", () -> solver.binary(kind, a, b),
                        () -> reference.binary(kind, a, b));
        }
    }

    private boolean makeVariable() {
        int w = width();
        return compare("variable(" + w + ")", () -> solver.variable(w), () -> reference.variable(w));
    }

    private boolean demand() {
        int a = truth();
        switch (below(8)) {
            case 0:
                return compare("push()", () -> solver.push(), () -> reference.push());
            case 1:
                return compare("pop()", () -> solver.pop(), () -> reference.pop());
            case 2:
            case 3: {
                int weight = below(12) == 0 ? odd() : 1 + below(9);
                return compare("wish(" + a + ", " + weight + ")", () -> solver.wish(a, weight),
                        () -> reference.wish(a, weight));
            }
            case 4:
                if (below(5) > 0) {
                    return true;
                }
                return compare("clearWishes()", () -> solver.clearWishes(), () -> reference.clearWishes());
            default:
                return compare("require(" + a + ")", () -> solver.require(a), () -> reference.require(a));
        }
    }

    private boolean changeInput() {
        int v = variable();
        int value = below(8) == 0 ? odd() : below(wide ? 64 : 8);
        return compare("input(" + v + ", " + value + ")", () -> solver.input(v, value),
                () -> reference.input(v, value));
    }

    private boolean askPlain() {
        int a = node();
        int k = below(9) == 0 ? odd() : below(Math.max(1, reference.constraints()));
        boolean flag = flag();
        switch (below(9)) {
            case 0:
                return compare("nodes()", () -> solver.nodes(), () -> reference.nodes());
            case 1:
                return compare("variables()", () -> solver.variables(), () -> reference.variables());
            case 2:
                return compare("constraints()", () -> solver.constraints(), () -> reference.constraints());
            case 3:
                return compare("constraint(" + k + ", " + flag + ")", () -> solver.constraint(k, flag),
                        () -> reference.constraint(k, flag));
            case 4:
            case 5: {
                int what = below(20) == 0 ? odd() : below(10);
                return compare("info(" + a + ", " + what + ")", () -> solver.info(a, what),
                        () -> reference.info(a, what));
            }
            default:
                return compare("value(" + a + ", " + flag + ")", () -> solver.value(a, flag),
                        () -> reference.value(a, flag));
        }
    }

    private boolean askModels() {
        int a = node();
        int b = nodeOfWidth(widthOf(a));
        int v = variable();
        int limit = limit();
        boolean one = flag();
        boolean two = flag();
        switch (below(13)) {
            case 0:
                return compare("satisfiable()", () -> Check.bool(solver.satisfiable()),
                        () -> Check.bool(reference.satisfiable()));
            case 1:
                return compare("witness(" + v + ")", () -> solver.witness(v), () -> reference.witness(v));
            case 2:
                return compare("extreme(" + a + ", " + one + ", " + two + ")", () -> solver.extreme(a, one, two),
                        () -> reference.extreme(a, one, two));
            case 3:
                return compare("extremeWitness(" + a + ", " + one + ", " + v + ")",
                        () -> solver.extremeWitness(a, one, v), () -> reference.extremeWitness(a, one, v));
            case 4:
                return compare("fixed(" + a + ", " + one + ")", () -> solver.fixed(a, one),
                        () -> reference.fixed(a, one));
            case 5:
                return compare("models(" + limit + ")", () -> solver.models(limit), () -> reference.models(limit));
            case 6:
                return compare("values(" + a + ", " + limit + ")", () -> solver.values(a, limit),
                        () -> reference.values(a, limit));
            case 7: {
                int k = below(6) == 0 ? odd() : below(wide ? 200 : 10);
                return compare("valueAt(" + a + ", " + k + ")", () -> solver.valueAt(a, k),
                        () -> reference.valueAt(a, k));
            }
            case 8:
                return compare("equivalent(" + a + ", " + b + ")", () -> Check.bool(solver.equivalent(a, b)),
                        () -> Check.bool(reference.equivalent(a, b)));
            case 9:
                return compare("counterexample(" + a + ", " + b + ", " + v + ")",
                        () -> solver.counterexample(a, b, v), () -> reference.counterexample(a, b, v));
            case 10:
                return compare("core()", () -> solver.core(), () -> reference.core());
            case 11:
                return compare("gain()", () -> solver.gain(), () -> reference.gain());
            default:
                return compare("bestWitness(" + v + ")", () -> solver.bestWitness(v), () -> reference.bestWitness(v));
        }
    }

    // ---- texts

    private String gap() {
        return below(8) == 0 ? " " : "";
    }

    private String description(int depth) {
        if (depth == 0 || below(3) == 0) {
            if (below(3) > 0) {
                return gap() + "v" + (below(12) == 0 ? below(10) : below(Math.max(1, reference.variables()))) + gap();
            }
            int w = 1 + below(wide ? 8 : 4);
            int number = below(10) == 0 ? below(1200) : below(1 << w);
            return gap() + number + gap() + ":" + gap() + (below(15) == 0 ? below(10) : w) + gap();
        }
        int word = below(WORDS.length);
        StringBuilder all = new StringBuilder(gap() + "(" + gap() + WORDS[word] + gap());
        int parts = word == 22 ? 3 : word >= 17 ? 1 : 2;
        for (int k = 0; k < (below(30) == 0 ? below(5) : parts); k++) {
            all.append(below(6) == 0 ? "" : " ").append(description(depth - 1));
        }
        for (int k = 0; k < (word == 19 ? 2 : word == 20 || word == 21 ? 1 : 0); k++) {
            all.append(" ").append(below(wide ? 9 : 5)).append(gap());
        }
        return all.append(")").append(gap()).toString();
    }

    private String spoilt(String text) {
        StringBuilder all = new StringBuilder(text);
        int at = below(all.length() + 1);
        char sign = SIGNS.charAt(below(SIGNS.length()));
        switch (below(4)) {
            case 0:
                all.insert(at, sign);
                break;
            case 1:
                all.setLength(at);
                break;
            default:
                if (at < all.length()) {
                    all.setCharAt(at, sign);
                }
                break;
        }
        return all.toString();
    }

    private boolean enterText() {
        String text = description(1 + below(3));
        for (int k = below(3); k > 0; k--) {
            text = spoilt(text);
        }
        boolean good = below(10) == 0
                || compare("clearText()", () -> solver.clearText(), () -> reference.clearText());
        for (int i = 0; i < text.length() && good; i++) {
            int c = below(400) == 0 ? odd() : text.charAt(i);
            good = compare("append(" + c + ")", () -> solver.append(c), () -> reference.append(c));
        }
        return good && compare("syntaxError()", () -> solver.syntaxError(), () -> reference.syntaxError());
    }

    private boolean useText() {
        int a = node();
        switch (below(5)) {
            case 0:
            case 1:
                return enterText() && compare("read()", () -> solver.read(), () -> reference.read());
            case 2:
                return compare("read()", () -> solver.read(), () -> reference.read());
            case 3:
                return compare("syntaxError()", () -> solver.syntaxError(), () -> reference.syntaxError());
            default:
                if (!compare("write(" + a + ")", () -> solver.write(a), () -> reference.write(a))) {
                    return false;
                }
                boolean good = true;
                for (int i = -1; i <= 120 && good; i += 1 + below(4)) {
                    int index = i;
                    good = compare("character(" + i + ")", () -> solver.character(index),
                            () -> reference.character(index));
                }
                return good;
        }
    }

    private boolean step() {
        switch (below(wide ? 9 : 12)) {
            case 0:
                return below(6) > 0 || makeVariable();
            case 1:
                return changeInput();
            case 2:
            case 3:
                return demand();
            case 4:
                return askPlain();
            case 5:
                return below(3) > 0 || compare("undo()", () -> solver.undo(), () -> reference.undo());
            case 6:
                return below(3) > 0 || useText();
            case 7:
                return makeNode();
            default:
                return askModels();
        }
    }

    private boolean digest() {
        return compare("digest()", () -> solver.digest(), () -> reference.digest());
    }

    private boolean run() {
        boolean good = true;
        int made = 1 + below(4);
        for (int k = 0; k < made && good; k++) {
            good = makeVariable();
        }
        int nodesFirst = below(wide ? 12 : 45);
        for (int k = 0; k < nodesFirst && good; k++) {
            good = makeNode();
        }
        while (good && log.size() < calls) {
            good = step() && (below(wide ? 9 : 5) > 0 || digest());
        }
        return good && digest();
    }

    public static void main(String[] args) {
        int narrowRuns = args.length > 0 ? Integer.parseInt(args[0]) : 1500;
        int wideRuns = args.length > 1 ? Integer.parseInt(args[1]) : 60;
        int longRuns = args.length > 2 ? Integer.parseInt(args[2]) : 150;
        Check check = new Check();
        for (int seed = 0; seed < narrowRuns; seed++) {
            check.due("run with seed " + seed, true, new RandomRunsTest(seed, false, 150).run());
        }
        for (int seed = 0; seed < wideRuns; seed++) {
            check.due("wide run with seed " + seed, true, new RandomRunsTest(1_000_000 + seed, true, 40).run());
        }
        for (int seed = 0; seed < longRuns; seed++) {
            check.due("long run with seed " + seed, true,
                    new RandomRunsTest(2_000_000 + seed, false, MOST_CALLS).run());
        }
        check.close("random runs");
    }
}
