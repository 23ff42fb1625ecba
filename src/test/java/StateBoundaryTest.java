/**
 * The boundary cases that the document names for states, exceptions and hashes (UNDO, EXCEPTIONS, the promises 40 and
 * 41, and the 512 calls of an object), each check under the words of the sentence that it is about.
 */
public final class StateBoundaryTest {
    private static final int MIN = Solvers.MIN;
    private static final int MAX = Solvers.MAX;
    private static final int NONE = WordSolver.NONE;
    private static final Check CHECK = new Check();

    private static void due(String what, long want, long got) {
        CHECK.due(what, want, got);
    }

    /** A call with its name, for objects that were made alike. */
    private record Step(String name, Action action) { }

    private interface Action {
        long on(WordSolver x);
    }

    private static Step step(String name, Action action) {
        return new Step(name, action);
    }

    private static String outcome(Step step, WordSolver x) {
        return Check.outcome(() -> step.action.on(x));
    }

    // ---- objects to call methods of

    /** Variables 0 of 4 bits and 1 of 1 bit (nodes 0 and 1), node 2 is 7:4, 3 is v0 < 7:4, 4 its inverse. */
    private static WordSolver some() {
        WordSolver x = new WordSolver();
        x.variable(4);
        x.variable(1);
        x.constant(4, 7);
        x.binary(14, 0, 2);
        x.unary(19, 3);
        x.require(3);
        x.push();
        x.require(1);
        x.wish(4, 2);
        x.wish(1, 5);
        x.input(0, 9);
        x.write(3);
        return x;
    }

    /** Everything full: 40 nodes, 4 variables, 20 constraints, level 5, 8 wishes, 120 characters. */
    private static WordSolver full() {
        WordSolver x = new WordSolver();
        x.variable(1);
        x.variable(7);
        x.variable(7);
        x.variable(1);
        for (int k = 4; k < 40; k++) {
            x.constant(8, k);
        }
        for (int k = 0; k < 20; k++) {
            x.require(k % 2 == 0 ? 0 : 3);
            if (k < 5) {
                x.push();
            }
        }
        for (int k = 1; k <= 8; k++) {
            x.wish(0, k);
        }
        x.input(2, 100);
        Solvers.type(x, "v2" + " ".repeat(118));
        return x;
    }

    private static WordSolver made(int k) {
        return k == 0 ? new WordSolver() : k == 1 ? some() : full();
    }

    private static final String[] MADE = {"a new object", "an object", "a full object"};

    // ---- UNDO

    /** Each method that is described as undoable, with a change and, where that is possible, without one. */
    private static final Step[] UNDOABLE = {
        step("variable", x -> x.variable(2)),
        step("constant", x -> x.constant(8, 200)),
        step("constant that is there", x -> x.constant(4, 7)),
        step("binary", x -> x.binary(18, 0, 1)),
        step("binary that is there", x -> x.binary(14, 0, 2)),
        step("unary", x -> x.unary(20, 0)),
        step("unary that is there", x -> x.unary(19, 3)),
        step("slice", x -> x.slice(0, 2, 1)),
        step("extend", x -> x.extend(0, 8, true)),
        step("choice", x -> x.choice(1, 0, 2)),
        step("input", x -> x.input(0, 15)),
        step("input that is there", x -> x.input(0, 9)),
        step("input that is 0", x -> x.input(1, 0)),
        step("require", x -> x.require(4)),
        step("require once more", x -> x.require(1)),
        step("push", x -> x.push()),
        step("pop", x -> x.pop()),
        step("wish", x -> x.wish(3, 9)),
        step("clearWishes", x -> x.clearWishes()),
        step("read", x -> x.read()),
    };

    /** What is not described as undoable and leaves the text as it is. */
    private static final Step[] ASKING = {
        step("nodes", x -> x.nodes()),
        step("variables", x -> x.variables()),
        step("info", x -> x.info(3, 8)),
        step("value", x -> x.value(3, true)),
        step("constraints", x -> x.constraints()),
        step("constraint", x -> x.constraint(1, true)),
        step("satisfiable", x -> Check.bool(x.satisfiable())),
        step("witness", x -> x.witness(0)),
        step("extreme", x -> x.extreme(0, true, false)),
        step("extremeWitness", x -> x.extremeWitness(0, true, 1)),
        step("fixed", x -> x.fixed(0, true)),
        step("models", x -> x.models(200)),
        step("values", x -> x.values(0, 200)),
        step("valueAt", x -> x.valueAt(0, 3)),
        step("equivalent", x -> Check.bool(x.equivalent(0, 2))),
        step("counterexample", x -> x.counterexample(0, 2, 1)),
        step("core", x -> x.core()),
        step("gain", x -> x.gain()),
        step("bestWitness", x -> x.bestWitness(0)),
        step("syntaxError", x -> x.syntaxError()),
        step("character", x -> x.character(0)),
        step("digest", x -> x.digest()),
    };

    private static void eachSuccessfulCallSavesTheState() {
        String says = "Each successful call of a method that is described as undoable saves the state before the call: ";
        for (Step step : UNDOABLE) {
            // the hash ends with the number of saved states, which is 5 before and 4 after
            WordSolver x = some();
            long before = x.digest();
            String text = Solvers.textOf(x);
            step.action.on(x);
            due("Returns the number of states that are still saved: " + step.name, 4, x.undo());
            due(says + step.name, before - 1, x.digest());
            CHECK.same("the text is not part of the state: " + step.name, text, Solvers.textOf(x));
            WordSolver y = some();
            step.action.on(y);
            due("one state a call, and at most 5: " + step.name, 5, saved(y));
        }
        WordSolver none = new WordSolver();
        none.clearWishes();
        due("even if nothing changes: no wishes to clear", 0, none.undo());
        WordSolver level = new WordSolver();
        level.push();
        due("even if nothing changes: an empty level", 0, level.pop());
        due("the level is saved before pop", 1, level.undo());
        due("the level is back", 0, level.pop());
    }

    /** The number of saved states; they are used up. */
    private static int saved(WordSolver x) {
        int count = 0;
        while (!Check.outcome(x::undo).startsWith("throws")) {
            count++;
        }
        return count;
    }

    private static void otherMethodsSaveNothing() {
        String says = "not described as undoable, nothing is saved and nothing changes: ";
        for (Step step : ASKING) {
            WordSolver x = some();
            step.action.on(x);
            step.action.on(x);
            CHECK.same(says + step.name, Solvers.past(some()), Solvers.past(x));
        }
        String past = Solvers.past(some());
        WordSolver appended = some();
        appended.append('!');
        due(says + "append", 12, appended.clearText());
        appended.write(3);
        CHECK.same(says + "append, clearText and write", past, Solvers.past(appended));
        for (int k = 0; k < 5; k++) {
            WordSolver x = new WordSolver();
            for (int saved = 0; saved < k; saved++) {
                x.push();
            }
            x.append('v');
            x.clearText();
            x.append('(');
            x.syntaxError();
            Check.outcome(x::read);
            x.satisfiable();
            x.models(1);
            x.core();
            x.gain();
            due(says + "with " + k + " saved states", k, saved(x));
        }
        WordSolver y = some();
        y.undo();
        y.undo();
        CHECK.same("undo is not undoable: it goes back further", "2", Check.outcome(y::undo));
    }

    private static void atMost5StatesAreKept() {
        for (int calls = 0; calls <= 12; calls++) {
            WordSolver x = new WordSolver();
            long[] hashes = new long[calls + 1];
            for (int k = 0; k < calls; k++) {
                hashes[k] = x.digest() - Math.min(k, 5);
                x.constant(8, k);
            }
            for (int left = Math.min(calls, 5) - 1; left >= 0; left--) {
                due("Returns the number of states that are still saved", left, x.undo());
                int back = calls - Math.min(calls, 5) + left;
                due("Restores the state that was saved last", hashes[back] + left, x.digest());
            }
            CHECK.stateThrown("if no state is saved: after " + calls + " calls", x::undo);
            due("when one more is saved, the oldest one is dropped", Math.max(0, calls - 5), x.nodes());
            due("a state is saved again", calls - Math.min(calls, 5), x.constant(7, 1));
            due("and restored", 0, x.undo());
        }
        WordSolver y = new WordSolver();
        for (int k = 0; k < 30; k++) {
            y.push();
            y.pop();
        }
        due("At most 5 states are kept: after many calls", 5, saved(y));
        due("the latest level is 1 in the fifth from the end", 0, y.pop());
    }

    private static void theStateConsistsOf() {
        String says = "The state consists of the nodes, the constraints with their levels, the wishes and the inputs: ";
        Step[] steps = {step("variable", x -> x.variable(1)), step("wish", x -> x.wish(0, 3)),
            step("push", x -> x.push()), step("require", x -> x.require(0)), step("input", x -> x.input(0, 1)),
            step("clearWishes", x -> x.clearWishes()), step("pop", x -> x.pop()), step("unary", x -> x.unary(19, 0)),
            step("require", x -> x.require(1)), step("variable", x -> x.variable(8)),
            step("input", x -> x.input(1, 255)), step("read", x -> Solvers.read(x, "(add v1 (not 7:8))")),
            step("wish", x -> x.wish(1, 9)), step("constant", x -> x.constant(1, 0))};
        for (int from = 0; from + 5 <= steps.length; from++) {
            WordSolver x = new WordSolver();
            for (int k = 0; k < from; k++) {
                steps[k].action.on(x);
            }
            long[] hashes = new long[5];
            for (int k = 0; k < 5; k++) {
                Solvers.type(x, "");
                hashes[k] = x.digest() - Math.min(from + k, 5);
                steps[from + k].action.on(x);
            }
            Solvers.type(x, "");
            for (int k = 4; k >= 0; k--) {
                due(says + "the number of saved states before " + steps[from + k].name, k, x.undo());
                due(says + "before " + steps[from + k].name, hashes[k] + k, x.digest());
            }
        }
        WordSolver text = Solvers.typed("abc");
        text.push();
        Solvers.type(text, "defg");
        text.undo();
        CHECK.same("the text is not part of the state", "defg", Solvers.textOf(text));
    }

    /** All that a full state holds is back, though it was overwritten. */
    private static void fullStatesAreRestored() {
        WordSolver x = new WordSolver();
        for (int v = 0; v < 4; v++) {
            x.variable(1);
        }
        x.push();
        for (int k = 0; k < 19; k++) {
            x.require(k % 2);
        }
        x.push();
        x.require(3);
        x.pop();
        x.require(2);
        due("another 20th constraint", 2, x.constraint(19, false));
        due("of another level", 1, x.constraint(19, true));
        x.undo();
        x.undo();
        due("the 20th constraint is back", 3, x.constraint(19, false));
        due("its level is back", 2, x.constraint(19, true));
        x.pop();
        x.pop();
        for (int k = 0; k < 3; k++) {
            x.require(3);
        }
        for (int k = 0; k < 5; k++) {
            x.undo();
        }
        for (int k = 0; k < 19; k++) {
            due("constraint " + k + " is back", k % 2, x.constraint(k, false));
            due("level of constraint " + k + " is back", 1, x.constraint(k, true));
        }
        due("constraint 19 is back", 3, x.constraint(19, false));
    }

    private static void fullWishesAndInputsAreRestored() {
        WordSolver x = new WordSolver();
        for (int v = 0; v < 4; v++) {
            x.variable(4);
        }
        int[] bits = new int[8];
        for (int k = 0; k < 8; k++) {
            bits[k] = x.slice(k / 4, k % 4, k % 4);
        }
        int[][] wishes = new int[8][];
        for (int k = 0; k < 8; k++) {
            x.wish(bits[k], k + 1);
            wishes[k] = new int[] {bits[k], k + 1};
        }
        long before = x.digest();
        x.clearWishes();
        for (int k = 0; k < 3; k++) {
            x.wish(bits[7 - k], 9);
        }
        for (int k = 0; k < 4; k++) {
            x.undo();
        }
        due("the first wishes are back", before - 4, x.digest());
        x.undo();
        x.wish(bits[7], 8);
        due("the last wish again", before - 4, x.digest());
        x.undo();
        x.wish(bits[0], 3);
        x.undo();
        x.wish(bits[7], 8);
        due("the last wish again", before - 4, x.digest());
        for (int v = 0; v < 4; v++) {
            x.input(v, 15 - v);
        }
        due("15 at the last variable but three", 15, x.value(0, false));
        for (int v = 3; v >= 0; v--) {
            due("the input of variable " + v, 15 - v, x.value(v, false));
            x.undo();
            due("its input before", 0, x.value(v, false));
        }
    }

    private static void lastWishIsRestored() {
        WordSolver x = new WordSolver();
        x.variable(1);
        x.unary(19, 0);
        for (int k = 0; k < 7; k++) {
            x.wish(0, 1);
        }
        x.wish(1, 9);
        due("eight wishes", 9, x.gain());
        x.undo();
        due("seven wishes", 7, x.gain());
        x.wish(0, 5);
        due("another eighth wish", 12, x.gain());
        x.clearWishes();
        x.undo();
        due("the other eighth wish is back", 12, x.gain());
        due("its node is back", 1, x.bestWitness(0));
    }

    private static void modelsAfterUndo() {
        WordSolver x = new WordSolver();
        x.variable(3);
        x.variable(8);
        due("models of 11 bits", 200, x.models(200));
        x.undo();
        due("a variable fewer", 8, x.models(200));
        x.variable(1);
        due("another variable in its place", 16, x.models(200));
        x.require(1);
        due("with a constraint", 8, x.models(200));
        due("with a constraint", 1, x.witness(1));
        x.undo();
        due("the constraint undone", 16, x.models(200));
        due("the constraint undone", 0, x.witness(1));
        x.push();
        x.require(1);
        x.require(x.unary(19, 1));
        due("a conflict", 0b11, x.core());
        x.pop();
        due("popped", NONE, x.core());
        due("popped", 16, x.models(200));
        x.undo();
        due("the conflict is back", 0b11, x.core());
        due("the conflict is back", 0, x.models(200));
    }

    // ---- EXCEPTIONS

    private static final String INDEX = "throws.IndexOutOfBoundsException";
    private static final String ARGUMENT = "throws.IllegalArgumentException";
    private static final String STATE = "throws.IllegalStateException";

    private record Refused(String thrown, Step step) { }

    private static Refused refused(String thrown, String name, Action action) {
        return new Refused(thrown, step(name, action));
    }

    /** Calls that a full object refuses; where several exceptions apply, the one that is listed first is due. */
    private static final Refused[] BY_A_FULL_OBJECT = {
        refused(ARGUMENT, "variable: width ahead of 40 nodes", x -> x.variable(0)),
        refused(ARGUMENT, "variable: width ahead of 40 nodes", x -> x.variable(9)),
        refused(STATE, "variable", x -> x.variable(1)),
        refused(ARGUMENT, "constant: width ahead of 40 nodes", x -> x.constant(0, 0)),
        refused(ARGUMENT, "constant: value ahead of 40 nodes", x -> x.constant(3, 8)),
        refused(STATE, "constant", x -> x.constant(3, 7)),
        refused(ARGUMENT, "binary: kind ahead of nodes", x -> x.binary(1, -1, 40)),
        refused(ARGUMENT, "binary: kind ahead of widths", x -> x.binary(19, 0, 1)),
        refused(ARGUMENT, "binary: kind ahead of 40 nodes", x -> x.binary(19, 0, 0)),
        refused(INDEX, "binary: first node ahead of widths", x -> x.binary(2, 40, 0)),
        refused(INDEX, "binary: second node ahead of widths", x -> x.binary(18, 4, 40)),
        refused(STATE, "binary: widths", x -> x.binary(2, 0, 1)),
        refused(STATE, "binary: 7 + 8 bits", x -> x.binary(18, 1, 4)),
        refused(STATE, "binary: 40 nodes", x -> x.binary(2, 0, 0)),
        refused(ARGUMENT, "unary: kind ahead of node", x -> x.unary(18, 40)),
        refused(ARGUMENT, "unary: kind ahead of 40 nodes", x -> x.unary(21, 0)),
        refused(INDEX, "unary: node ahead of 40 nodes", x -> x.unary(19, 40)),
        refused(STATE, "unary", x -> x.unary(20, 0)),
        refused(INDEX, "slice: node ahead of bits", x -> x.slice(40, 0, 1)),
        refused(INDEX, "slice: node ahead of 40 nodes", x -> x.slice(-1, 0, 0)),
        refused(ARGUMENT, "slice: bits ahead of 40 nodes", x -> x.slice(1, 7, 0)),
        refused(STATE, "slice", x -> x.slice(1, 6, 0)),
        refused(INDEX, "extend: node ahead of width", x -> x.extend(40, 9, false)),
        refused(INDEX, "extend: node ahead of 40 nodes", x -> x.extend(-1, 8, true)),
        refused(ARGUMENT, "extend: width ahead of 40 nodes", x -> x.extend(1, 7, true)),
        refused(STATE, "extend", x -> x.extend(1, 8, true)),
        refused(INDEX, "choice: condition ahead of widths", x -> x.choice(40, 0, 1)),
        refused(INDEX, "choice: first ahead of widths", x -> x.choice(1, 40, 1)),
        refused(INDEX, "choice: second ahead of widths", x -> x.choice(1, 0, 40)),
        refused(STATE, "choice: condition", x -> x.choice(1, 0, 0)),
        refused(STATE, "choice: widths", x -> x.choice(0, 0, 1)),
        refused(STATE, "choice: 40 nodes", x -> x.choice(0, 1, 2)),
        refused(INDEX, "info: node ahead of what", x -> x.info(40, 9)),
        refused(ARGUMENT, "info", x -> x.info(39, 9)),
        refused(INDEX, "input: variable ahead of value", x -> x.input(4, -1)),
        refused(ARGUMENT, "input", x -> x.input(1, 128)),
        refused(INDEX, "value", x -> x.value(40, false)),
        refused(INDEX, "require: node ahead of 20 constraints", x -> x.require(40)),
        refused(ARGUMENT, "require: width ahead of 20 constraints", x -> x.require(1)),
        refused(STATE, "require", x -> x.require(0)),
        refused(STATE, "push", x -> x.push()),
        refused(INDEX, "constraint", x -> x.constraint(20, true)),
        refused(INDEX, "witness", x -> x.witness(4)),
        refused(INDEX, "extreme", x -> x.extreme(40, true, true)),
        refused(INDEX, "extremeWitness: variable", x -> x.extremeWitness(0, true, 4)),
        refused(INDEX, "extremeWitness: node", x -> x.extremeWitness(40, true, 0)),
        refused(INDEX, "fixed", x -> x.fixed(40, true)),
        refused(ARGUMENT, "models: too few", x -> x.models(0)),
        refused(ARGUMENT, "models: too many", x -> x.models(201)),
        refused(INDEX, "values: node ahead of limit", x -> x.values(40, 0)),
        refused(ARGUMENT, "values", x -> x.values(0, 201)),
        refused(INDEX, "valueAt: node, k is no exception", x -> x.valueAt(40, 200)),
        refused(INDEX, "equivalent: first node ahead of widths", x -> Check.bool(x.equivalent(40, 1))),
        refused(INDEX, "equivalent: second node ahead of widths", x -> Check.bool(x.equivalent(1, -1))),
        refused(ARGUMENT, "equivalent", x -> Check.bool(x.equivalent(0, 1))),
        refused(INDEX, "counterexample: first node ahead of widths", x -> x.counterexample(40, 1, 0)),
        refused(INDEX, "counterexample: second node ahead of widths", x -> x.counterexample(1, 40, 0)),
        refused(INDEX, "counterexample: variable ahead of widths", x -> x.counterexample(0, 1, 4)),
        refused(ARGUMENT, "counterexample", x -> x.counterexample(0, 1, 0)),
        refused(INDEX, "wish: node ahead of weight", x -> x.wish(40, 0)),
        refused(INDEX, "wish: node ahead of 8 wishes", x -> x.wish(-1, 1)),
        refused(ARGUMENT, "wish: width ahead of 8 wishes", x -> x.wish(1, 1)),
        refused(ARGUMENT, "wish: weight ahead of 8 wishes", x -> x.wish(0, 10)),
        refused(STATE, "wish", x -> x.wish(0, 9)),
        refused(INDEX, "bestWitness", x -> x.bestWitness(4)),
        refused(ARGUMENT, "append: code ahead of 120 characters", x -> x.append(127)),
        refused(STATE, "append", x -> x.append(126)),
        refused(INDEX, "write", x -> x.write(40)),
    };

    private static final Refused[] BY_AN_OBJECT = {
        refused(ARGUMENT, "variable", x -> x.variable(9)),
        refused(ARGUMENT, "constant", x -> x.constant(8, 256)),
        refused(STATE, "binary", x -> x.binary(13, 0, 1)),
        refused(ARGUMENT, "slice", x -> x.slice(0, 4, 0)),
        refused(ARGUMENT, "extend", x -> x.extend(0, 4, false)),
        refused(STATE, "choice", x -> x.choice(0, 0, 0)),
        refused(ARGUMENT, "input", x -> x.input(0, 16)),
        refused(ARGUMENT, "require", x -> x.require(0)),
        refused(INDEX, "require", x -> x.require(5)),
        refused(INDEX, "constraint", x -> x.constraint(2, false)),
        refused(ARGUMENT, "wish", x -> x.wish(1, 0)),
        refused(ARGUMENT, "append", x -> x.append(31)),
        refused(INDEX, "write", x -> x.write(5)),
    };

    private static final Refused[] BY_A_NEW_OBJECT = {
        refused(STATE, "pop", x -> x.pop()),
        refused(STATE, "undo", x -> x.undo()),
        refused(ARGUMENT, "read: an empty text", x -> x.read()),
        refused(INDEX, "value", x -> x.value(0, false)),
        refused(INDEX, "input", x -> x.input(0, 0)),
        refused(INDEX, "write", x -> x.write(0)),
        refused(INDEX, "bestWitness", x -> x.bestWitness(0)),
        refused(INDEX, "extreme", x -> x.extreme(0, true, true)),
    };

    private static void aCallThatThrowsChangesNothing() {
        Refused[][] all = {BY_A_NEW_OBJECT, BY_AN_OBJECT, BY_A_FULL_OBJECT};
        for (int k = 0; k < all.length; k++) {
            String face = Solvers.face(made(k));
            String past = Solvers.past(made(k));
            for (Refused refused : all[k]) {
                WordSolver x = made(k);
                CHECK.same("the one that is listed first is thrown: " + refused.step.name + ", " + MADE[k],
                        refused.thrown, outcome(refused.step, x));
                CHECK.same("A call that throws an exception changes nothing: " + refused.step.name + ", " + MADE[k],
                        face, Solvers.face(x));
                CHECK.same("nor of what is saved: " + refused.step.name + ", " + MADE[k],
                        past.substring(face.length()), Solvers.past(x).substring(face.length()));
            }
        }
    }

    private static void readThatThrowsChangesNothing() {
        String[][] rows = {
            {ARGUMENT, "(add v0 v1"}, {ARGUMENT, "v9 v"}, {ARGUMENT, "(add (foo v0) v9)"}, {ARGUMENT, "300:8 x"},
            {STATE, "v2"}, {STATE, "(neg v2)"}, {STATE, "(add (neg v0) (not v2))"}, {STATE, "300:8"},
            {STATE, "(add (not 3:4) (slice v0 3 4))"}, {STATE, "(cat (not v0) (cat 1:4 1:1))"},
            {STATE, "(ite (eq v0 3:4) (neg v0) (not v1))"},
        };
        for (String[] row : rows) {
            WordSolver x = some();
            WordSolver twin = some();
            Solvers.type(x, row[1]);
            Solvers.type(twin, row[1]);
            CHECK.same("if there is a syntax error, ahead of all others: " + row[1], row[0], Check.outcome(x::read));
            CHECK.same("A call that throws an exception changes nothing: read " + row[1], Solvers.past(twin),
                    Solvers.past(x));
        }
        WordSolver x = full();
        WordSolver twin = full();
        Solvers.type(x, "(add 4:8 (neg 5:8))");
        Solvers.type(twin, "(add 4:8 (neg 5:8))");
        CHECK.stateThrown("more than 40 nodes would be needed", x::read);
        CHECK.same("A call that throws an exception changes nothing: read in a full object", Solvers.past(twin),
                Solvers.past(x));
    }

    private static void writeThatThrowsChangesNothing() {
        WordSolver x = new WordSolver();
        WordSolver twin = new WordSolver();
        for (WordSolver y : new WordSolver[] {x, twin}) {
            y.variable(1);
            for (int k = 0; k < 5; k++) {
                y.binary(5, k, k);
            }
            Solvers.type(y, "what was there");
        }
        CHECK.stateThrown("if it would have more than 120 characters", () -> x.write(5));
        CHECK.same("A call that throws an exception changes nothing: write", Solvers.past(twin), Solvers.past(x));
    }

    private static void extremeWithoutModel() {
        WordSolver x = some();
        Solvers.spoil(x);
        long before = x.digest();
        CHECK.stateThrown("if there is no model", () -> x.extreme(0, true, false));
        CHECK.indexThrown("the node ahead of the missing model", () -> x.extreme(6, true, false));
        due("A call that throws an exception changes nothing: extreme", before, x.digest());
    }

    private static void noneOnlyIfNoExceptionApplies() {
        String says = "NONE is returned only if no exception applies: ";
        WordSolver x = some();
        Solvers.spoil(x);
        for (int bad : new int[] {MIN, -1, 6, 40, MAX}) {
            CHECK.indexThrown(says + "witness", () -> x.witness(bad));
            CHECK.indexThrown(says + "extremeWitness, node", () -> x.extremeWitness(bad, true, 0));
            CHECK.indexThrown(says + "extremeWitness, variable", () -> x.extremeWitness(0, false, bad));
            CHECK.indexThrown(says + "fixed", () -> x.fixed(bad, false));
            CHECK.indexThrown(says + "valueAt", () -> x.valueAt(bad, 0));
            CHECK.indexThrown(says + "valueAt, k is out of range, too", () -> x.valueAt(bad, 200));
            CHECK.indexThrown(says + "counterexample, node", () -> x.counterexample(0, bad, 0));
            CHECK.indexThrown(says + "counterexample, variable", () -> x.counterexample(0, 0, bad));
            CHECK.indexThrown(says + "bestWitness", () -> x.bestWitness(bad));
            CHECK.indexThrown(says + "info", () -> x.info(bad, 4));
        }
        CHECK.argumentThrown(says + "counterexample, widths", () -> x.counterexample(0, 1, 0));
        CHECK.argumentThrown(says + "equivalent, widths", () -> Check.bool(x.equivalent(0, 1)));
        CHECK.argumentThrown(says + "models", () -> x.models(0));
        CHECK.argumentThrown(says + "values", () -> x.values(0, 0));
        due("and NONE otherwise", NONE, x.witness(0));
    }

    // ---- the hash

    private static void theHash() {
        String says = "h = 31 * h + v, with the overflow of long arithmetic ignored: ";
        long empty = 1862;
        for (int v : new int[] {0, 0, 0, 0, 1, 0, 0}) {
            empty = 31 * empty + v;
        }
        due(says + "a new object", empty, new WordSolver().digest());
        long text = 1862;
        for (int v : new int[] {0, 0, 0, 0, 1, 2, 0}) {
            text = 31 * text + v;
        }
        due(says + "a text", text, Solvers.typed("v0").digest());
        WordSolver x = new WordSolver();
        x.variable(8);
        x.input(0, 200);
        // 1 node with its 9 numbers and its value; the input; no constraint; level 0; no wish; a model; 0; no text; 2
        long h = 1862;
        for (int v : new int[] {1, 1, 8, -1, -1, -1, 0, -1, -1, 1, 200, 200, 0, 0, 0, 1, 0, 0, 2}) {
            h = 31 * h + v;
        }
        due(says + "its value by the inputs (unsigned)", h, x.digest());
        int[][] wishes = {{4, 2}, {1, 5}};
        due(says + "an object", Solvers.digestBy(some(), 1, wishes, 11, 5), some().digest());
        WordSolver noModel = some();
        Solvers.spoil(noModel);
        due("the value of each variable in the least model (NONE without one)",
                Solvers.digestBy(noModel, 1, wishes, 11, 5), noModel.digest());
        int[][] eight = {{0, 1}, {0, 2}, {0, 3}, {0, 4}, {0, 5}, {0, 6}, {0, 7}, {0, 8}};
        WordSolver full = Solvers.withNodes(40);
        due(says + "40 nodes", Solvers.digestBy(Solvers.withNodes(40), 0, new int[0][], 0, 5), full.digest());
        WordSolver wished = new WordSolver();
        wished.variable(1);
        for (int[] wish : eight) {
            wished.wish(wish[0], wish[1]);
        }
        due(says + "8 wishes", Solvers.digestBy(wished, 0, eight, 0, 5), wished.digest());
    }

    // ---- 512 calls

    /** Each call up to the 512th answers as Reference does. */
    private static void atMost512Calls() {
        WordSolver x = new WordSolver();
        Reference y = new Reference();
        due("call 1 of 512", y.variable(8), x.variable(8));
        due("call 2 of 512", y.constant(8, 7), x.constant(8, 7));
        due("call 3 of 512", y.binary(12, 0, 1), x.binary(12, 0, 1));
        due("call 4 of 512", y.constant(8, 3), x.constant(8, 3));
        due("call 5 of 512", y.binary(13, 2, 3), x.binary(13, 2, 3));
        int calls = 5;
        for (int round = 0; calls + 12 <= 512; round++) {
            int n = round;
            String says = " of 512, round " + round;
            due(++calls + says, y.push(), x.push());
            due(++calls + says, y.require(4), x.require(4));
            due(++calls + says, y.input(0, 5 * n & 255), x.input(0, 5 * n & 255));
            due(++calls + says, y.value(2, true), x.value(2, true));
            due(++calls + says, y.models(200), x.models(200));
            due(++calls + says, y.wish(4, 1 + n % 9), x.wish(4, 1 + n % 9));
            due(++calls + says, y.gain(), x.gain());
            due(++calls + says, y.clearWishes(), x.clearWishes());
            due(++calls + says, y.pop(), x.pop());
            due(++calls + says, y.undo(), x.undo());
            due(++calls + says, y.undo(), x.undo());
            due(++calls + says, y.undo(), x.undo());
            if (y.constraints() > 0 && calls + 13 <= 512) {
                due(++calls + says, y.pop(), x.pop());
            }
        }
        while (calls < 511) {
            due(++calls + " of 512", y.extreme(2, true, false), x.extreme(2, true, false));
        }
        due("call 512 of 512", y.digest(), x.digest());
        WordSolver asked = some();
        long first = some().digest();
        for (int k = 13; k < 512; k++) {
            asked.digest();
        }
        due("a hash as the 512th call", first, asked.digest());
    }

    public static void main(String[] args) {
        eachSuccessfulCallSavesTheState();
        otherMethodsSaveNothing();
        atMost5StatesAreKept();
        theStateConsistsOf();
        fullStatesAreRestored();
        fullWishesAndInputsAreRestored();
        lastWishIsRestored();
        modelsAfterUndo();
        aCallThatThrowsChangesNothing();
        readThatThrowsChangesNothing();
        writeThatThrowsChangesNothing();
        extremeWithoutModel();
        noneOnlyIfNoExceptionApplies();
        theHash();
        atMost512Calls();
        CHECK.close("boundaries of states, exceptions and hashes");
    }
}
