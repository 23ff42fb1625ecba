/**
 * The boundary cases that the document names for constraints, models, conflicts and wishes (CONSTRAINTS, WISHES and the
 * promises 14 to 33), each check under the words of the sentence that it is about.
 */
public final class ModelBoundaryTest {
    private static final int MIN = Solvers.MIN;
    private static final int MAX = Solvers.MAX;
    private static final int NONE = WordSolver.NONE;
    private static final Check CHECK = new Check();

    private static void due(String what, long want, long got) {
        CHECK.due(what, want, got);
    }

    private static void due(String what, boolean want, boolean got) {
        CHECK.due(what, want, got);
    }

    private static int full(int width) {
        return (1 << width) - 1;
    }

    private static WordSolver withVariables(int... widths) {
        WordSolver x = new WordSolver();
        for (int width : widths) {
            x.variable(width);
        }
        return x;
    }

    /** Variables with the given widths whose sum is on both sides of a block of 64 assignments, and the greatest ones. */
    private static final int[][] SHAPES = {{1}, {5}, {6}, {7}, {8}, {2, 3}, {3, 3}, {6, 1}, {1, 6}, {8, 8}, {7, 8, 1},
        {1, 1, 1, 1}, {4, 4, 4, 4}, {2, 2, 2, 1}};

    private static int bits(int[] widths) {
        int bits = 0;
        for (int width : widths) {
            bits += width;
        }
        return bits;
    }

    /** Demands that each variable has its word. */
    private static void demandWords(WordSolver x, int[] widths, int[] words) {
        for (int v = 0; v < widths.length; v++) {
            x.require(x.binary(13, v, x.constant(widths[v], words[v])));
        }
    }

    // ---- CONSTRAINTS

    private static void atMost20Constraints() {
        String says = "There are at most 20 constraints, numbered from 0 in the order in which they were added: ";
        WordSolver x = withVariables(1, 1);
        for (int k = 0; k < 20; k++) {
            due(says + "the number", k, x.require(k % 2));
            due("Returns 0 to 20", k + 1, x.constraints());
        }
        CHECK.stateThrown(says + "a 21st", () -> x.require(0));
        due(says + "still 20", 20, x.constraints());
        for (int k = 0; k < 20; k++) {
            due("(the same node can occur several times)", k % 2, x.constraint(k, false));
        }
        x.undo();
        due(says + "room again", 19, x.require(0));
        WordSolver y = withVariables(1);
        y.push();
        for (int k = 0; k < 20; k++) {
            y.require(0);
        }
        due(says + "popped", 20, y.pop());
        due(says + "room again", 0, y.require(0));
    }

    private static void nodesOfWidth1() {
        WordSolver x = new WordSolver();
        for (int width = 1; width <= 8; width++) {
            int node = x.constant(width, 1);
            if (width == 1) {
                due("which are nodes of width 1", 0, x.require(node));
            } else {
                CHECK.argumentThrown("if its width is not 1: " + width, () -> x.require(node));
            }
        }
        for (int node : new int[] {MIN, -1, 8, 39, 40, MAX}) {
            CHECK.indexThrown("if there is no such node: require " + node, () -> x.require(node));
        }
        due("the refused ones are no constraints", 1, x.constraints());
    }

    private static void atFirstThereIsOnlyLevel0() {
        WordSolver x = withVariables(1);
        CHECK.stateThrown("if the latest level is 0", x::pop);
        due("at first there is only level 0", 0, x.require(0));
        due("at first there is only level 0", 0, x.constraint(0, true));
        CHECK.stateThrown("if the latest level is 0, also with constraints", x::pop);
        due("the constraint stays", 1, x.constraints());
    }

    private static void atMostLevel5() {
        String says = "each constraint belongs to the level that was the latest one when it was added: ";
        WordSolver x = withVariables(1);
        x.require(0);
        for (int level = 1; level <= 5; level++) {
            due("Begins a new level, returns its number", level, x.push());
            x.require(0);
            due(says + "level " + level, level, x.constraint(level, true));
        }
        CHECK.stateThrown("at most level 5", x::push);
        x.require(0);
        due("the refused push began none", 5, x.constraint(6, true));
        due("Removes the latest level with its constraints", 2, x.pop());
        for (int level = 4; level >= 1; level--) {
            due("the latest level is the one below: " + level, level + 1, x.constraints());
            due("Returns the number of constraints that were removed", 1, x.pop());
        }
        CHECK.stateThrown("level 0 stays", x::pop);
        due("the constraint of level 0 stays", 1, x.constraints());
        due("its level", 0, x.constraint(0, true));
        due("levels are numbered anew", 1, x.push());
    }

    private static void removesTheLatestLevel() {
        WordSolver x = withVariables(1);
        x.push();
        due("Returns the number of constraints that were removed: none at all", 0, x.pop());
        x.require(0);
        x.push();
        x.push();
        due("Returns the number of constraints that were removed: an empty level above one", 0, x.pop());
        due("only the latest level: the one below is still there", 0, x.pop());
        due("the constraint of level 0 stays", 1, x.constraints());
        x.push();
        x.require(0);
        x.require(0);
        x.push();
        due("none of the level below", 0, x.pop());
        x.require(0);
        due("added to the level below after pop", 1, x.constraint(3, true));
        due("Returns the number of constraints that were removed: three", 3, x.pop());
        CHECK.indexThrown("they are gone", () -> x.constraint(1, true));
    }

    private static void constraintsThatDoNotExist() {
        WordSolver x = withVariables(1);
        for (int k : new int[] {MIN, -1, 0, 1, 19, 20, MAX}) {
            CHECK.indexThrown("if there is no such constraint: " + k + " of none", () -> x.constraint(k, false));
            CHECK.indexThrown("if there is no such constraint: level of " + k, () -> x.constraint(k, true));
        }
        for (int k = 0; k < 20; k++) {
            x.require(0);
        }
        due("the last constraint", 0, x.constraint(19, false));
        CHECK.indexThrown("if there is no such constraint: 20 of 20", () -> x.constraint(20, false));
        CHECK.indexThrown("if there is no such constraint: 21 of 20", () -> x.constraint(21, true));
    }

    // ---- models

    private static void allConstraintsHaveTheValue1() {
        String says = "an assignment by which all constraints have the value 1: ";
        for (int[] widths : SHAPES) {
            int[][] corners = {new int[widths.length], new int[widths.length], new int[widths.length]};
            for (int v = 0; v < widths.length; v++) {
                corners[1][v] = full(widths[v]);
                corners[2][v] = 1 << (widths[v] - 1);
            }
            for (int[] words : corners) {
                WordSolver x = withVariables(widths);
                demandWords(x, widths, words);
                due(says + "one", true, x.satisfiable());
                due(says + "one", 1, x.models(200));
                for (int v = 0; v < widths.length; v++) {
                    due(says + "witness", words[v], x.witness(v));
                    due(says + "best witness", words[v], x.bestWitness(v));
                    due(says + "smallest", words[v], x.extreme(v, false, false));
                    due(says + "greatest", words[v], x.extreme(v, true, false));
                    due(says + "of the smallest", words[v], x.extremeWitness(0, false, v));
                    due(says + "of the greatest", words[v], x.extremeWitness(0, true, v));
                    due(says + "all bits are fixed", full(widths[v]), x.fixed(v, false));
                    due(says + "to this word", words[v], x.fixed(v, true));
                    due(says + "one value", 1, x.values(v, 200));
                    due(says + "this value", words[v], x.valueAt(v, 0));
                    due(says + "no other value", NONE, x.valueAt(v, 1));
                    due(says + "equal to this word", true, x.equivalent(v, x.constant(widths[v], words[v])));
                    due(says + "no counterexample",
                            NONE, x.counterexample(v, x.constant(widths[v], words[v]), v));
                    due(says + "a counterexample",
                            words[v], x.counterexample(v, x.constant(widths[v], words[v] ^ 1), v));
                }
                due(says + "no core", NONE, x.core());
            }
        }
    }

    private static void modelsAreOrdered() {
        String says = "Models are ordered by the value of variable 0, then by that of variable 1, and so on: ";
        for (int[] widths : SHAPES) {
            WordSolver x = withVariables(widths);
            for (int v = 0; v < widths.length; v++) {
                due(says + "all 0", 0, x.witness(v));
            }
            // not all variables are 0: the first one is that with 1 in the last variable
            int any = x.constant(1, 0);
            for (int v = 0; v < widths.length; v++) {
                any = x.binary(6, any, x.binary(14, x.constant(widths[v], 0), v));
            }
            x.require(any);
            for (int v = 0; v < widths.length; v++) {
                due(says + "the last variable first", v == widths.length - 1 ? 1 : 0, x.witness(v));
            }
            // the last variable must be 0: the one before it counts next
            if (widths.length > 1) {
                int last = widths.length - 1;
                x.require(x.binary(13, last, x.constant(widths[last], 0)));
                for (int v = 0; v < widths.length; v++) {
                    due(says + "then the one before", v == last - 1 ? 1 : 0, x.witness(v));
                }
            }
        }
    }

    private static void withoutVariablesThereIsOneAssignment() {
        String says = "(Without variables there is one assignment.) ";
        WordSolver x = new WordSolver();
        due(says + "no nodes at all", true, x.satisfiable());
        due(says + "models", 1, x.models(200));
        due(says + "models", 1, x.models(1));
        due(says + "no core", NONE, x.core());
        due(says + "gain", 0, x.gain());
        CHECK.indexThrown(says + "no variable", () -> x.witness(0));
        CHECK.indexThrown(says + "no variable", () -> x.bestWitness(0));
        int word = x.constant(8, 200);
        int other = x.constant(8, 100);
        due(says + "smallest", 200, x.extreme(word, false, false));
        due(says + "greatest", -56, x.extreme(word, true, true));
        due(says + "all bits are fixed", 255, x.fixed(word, false));
        due(says + "to the value", 200, x.fixed(word, true));
        due(says + "one value", 1, x.values(word, 200));
        due(says + "this one", 200, x.valueAt(word, 0));
        due(says + "no other", NONE, x.valueAt(word, 1));
        due(says + "equivalent", true, x.equivalent(word, word));
        due(says + "not equivalent", false, x.equivalent(word, other));
        CHECK.indexThrown(says + "no variable", () -> x.counterexample(word, other, 0));
        CHECK.indexThrown(says + "no variable", () -> x.extremeWitness(word, true, 0));
        x.wish(x.binary(14, other, word), 9);
        due(says + "gain", 9, x.gain());
        x.require(x.binary(14, other, word));
        due(says + "a constraint that holds", true, x.satisfiable());
        x.require(x.binary(14, word, other));
        due(says + "one that does not", false, x.satisfiable());
        due(says + "no model", 0, x.models(200));
        due(says + "core", 2, x.core());
        due(says + "no gain", NONE, x.gain());
    }

    private static void noModel() {
        for (int[] widths : SHAPES) {
            WordSolver x = withVariables(widths);
            x.wish(x.constant(1, 1), 9);
            Solvers.spoil(x);
            due("true if there is one", false, x.satisfiable());
            due("NONE if there is no model: witness", NONE, x.witness(0));
            CHECK.stateThrown("if there is no model: smallest", () -> x.extreme(0, false, false));
            CHECK.stateThrown("if there is no model: greatest", () -> x.extreme(0, true, true));
            due("NONE if there is no model: extremeWitness", NONE, x.extremeWitness(0, false, 0));
            due("NONE if there is no model: extremeWitness", NONE, x.extremeWitness(0, true, 0));
            due("NONE if there is no model: fixed bits", NONE, x.fixed(0, false));
            due("NONE if there is no model: fixed values", NONE, x.fixed(0, true));
            due("Returns the number of models: none", 0, x.models(1));
            due("Returns the number of models: none", 0, x.models(200));
            due("Returns the number of values: none", 0, x.values(0, 1));
            due("Returns the number of values: none", 0, x.values(0, 200));
            due("NONE if there are not so many", NONE, x.valueAt(0, 0));
            int other = x.unary(19, 0);
            due("true if they have (also if there is no model)", true, x.equivalent(0, other));
            due("NONE if there is no such model", NONE, x.counterexample(0, other, 0));
            due("NONE if there is no model: gain", NONE, x.gain());
            due("NONE if there is no model: bestWitness", NONE, x.bestWitness(0));
            due("the core", 1, x.core());
            x.undo();
            x.undo();
            due("models are back", Math.min(200, 1 << bits(widths)), x.models(200));
        }
    }

    private static void variablesThatDoNotExist() {
        WordSolver x = withVariables(2, 3);
        x.constant(8, 1);
        WordSolver four = withVariables(1, 1, 1, 1);
        for (int variable : new int[] {MIN, -1, 2, 3, 4, MAX}) {
            String says = "if there is no such variable: " + variable + ", ";
            CHECK.indexThrown(says + "witness", () -> x.witness(variable));
            CHECK.indexThrown(says + "extremeWitness", () -> x.extremeWitness(0, true, variable));
            CHECK.indexThrown(says + "counterexample", () -> x.counterexample(0, 0, variable));
            CHECK.indexThrown(says + "bestWitness", () -> x.bestWitness(variable));
        }
        due("the last of four variables exists", 0, four.witness(3));
        CHECK.indexThrown("if there is no such variable: 4 of four", () -> four.witness(4));
        x.undo();
        x.undo();
        CHECK.indexThrown("a variable that was undone does not exist", () -> x.witness(1));
    }

    private static void nodesThatDoNotExist() {
        WordSolver x = withVariables(2, 3);
        x.constant(8, 1);
        for (int node : new int[] {MIN, -1, 3, 4, 39, 40, MAX}) {
            String says = "if there is no such node: " + node + ", ";
            CHECK.indexThrown(says + "extreme", () -> x.extreme(node, true, true));
            CHECK.indexThrown(says + "extremeWitness", () -> x.extremeWitness(node, true, 0));
            CHECK.indexThrown(says + "fixed", () -> x.fixed(node, true));
            CHECK.indexThrown(says + "values", () -> x.values(node, 1));
            CHECK.indexThrown(says + "valueAt", () -> x.valueAt(node, 0));
            CHECK.indexThrown(says + "equivalent, first", () -> Check.bool(x.equivalent(node, 0)));
            CHECK.indexThrown(says + "equivalent, second", () -> Check.bool(x.equivalent(0, node)));
            CHECK.indexThrown(says + "counterexample, first", () -> x.counterexample(node, 0, 0));
            CHECK.indexThrown(says + "counterexample, second", () -> x.counterexample(0, node, 0));
            CHECK.indexThrown(says + "wish", () -> x.wish(node, 1));
        }
        due("the last node exists", 1, x.extreme(2, true, true));
    }

    private static void smallestAndGreatest() {
        String says = "the smallest or the greatest value that a node has in a model: ";
        for (int[] widths : SHAPES) {
            WordSolver x = withVariables(widths);
            for (int v = 0; v < widths.length; v++) {
                int half = 1 << (widths[v] - 1);
                due(says + "smallest", 0, x.extreme(v, false, false));
                due(says + "greatest", full(widths[v]), x.extreme(v, true, false));
                due("true to read the words as signed: smallest", -half, x.extreme(v, false, true));
                due("true to read the words as signed: greatest", half - 1, x.extreme(v, true, true));
            }
        }
        WordSolver x = withVariables(8);
        x.require(x.binary(15, 0, x.constant(8, 127)));
        due("only words that are not negative: smallest", 0, x.extreme(0, false, true));
        due("only words that are not negative: greatest", 127, x.extreme(0, true, true));
        x.undo();
        x.require(x.binary(14, x.constant(8, 127), 0));
        due("only negative words: smallest", -128, x.extreme(0, false, true));
        due("only negative words: greatest", -1, x.extreme(0, true, true));
        due("only negative words, unsigned: smallest", 128, x.extreme(0, false, false));
        due("only negative words, unsigned: greatest", 255, x.extreme(0, true, false));
    }

    private static void theLeastOfThoseModels() {
        String says = "the least of those models in which a node has its smallest or greatest value (unsigned): ";
        WordSolver x = withVariables(8, 8);
        int sum = x.binary(2, 0, 1);
        due(says + "sum 255: the first summand", 0, x.extremeWitness(sum, true, 0));
        due(says + "sum 255: the second summand", 255, x.extremeWitness(sum, true, 1));
        due(says + "sum 0: the first summand", 0, x.extremeWitness(sum, false, 0));
        due(says + "sum 0: the second summand", 0, x.extremeWitness(sum, false, 1));
        due("unsigned: 255 is the greatest", 255, x.extremeWitness(0, true, 0));
        due("unsigned: 0 is the smallest", 0, x.extremeWitness(0, false, 0));
        x.require(x.binary(14, x.constant(8, 0), 0));
        due(says + "a sum of 0 that wraps around", 1, x.extremeWitness(sum, false, 0));
        due(says + "a sum of 0 that wraps around", 255, x.extremeWitness(sum, false, 1));
        due(says + "a sum of 255", 254, x.extremeWitness(sum, true, 1));
        int same = x.constant(8, 77);
        due(says + "the same value in all models", 1, x.extremeWitness(same, true, 0));
        due(says + "the same value in all models", 0, x.extremeWitness(same, false, 1));
    }

    private static void bitsThatHaveTheSameValueInAllModels() {
        String says = "the bits of a node that have the same value in all models: ";
        for (int[] widths : SHAPES) {
            WordSolver x = withVariables(widths);
            int last = widths.length - 1;
            int width = widths[last];
            due(says + "none", 0, x.fixed(last, false));
            due("a word in which all other bits are 0: all of them", 0, x.fixed(last, true));
            x.require(x.slice(last, width - 1, width - 1));
            due(says + "the highest one", 1 << (width - 1), x.fixed(last, false));
            due(says + "it is 1", 1 << (width - 1), x.fixed(last, true));
            x.undo();
            x.require(x.unary(19, x.slice(last, 0, 0)));
            due(says + "the lowest one", 1, x.fixed(last, false));
            due(says + "it is 0", 0, x.fixed(last, true));
        }
        WordSolver y = withVariables(8, 8);
        int onlyLast = y.binary(13, y.binary(5, 0, 1), y.constant(8, 255));
        due(says + "all but the last one", 0, y.fixed(onlyLast, false));
        int onlyFirst = y.binary(13, y.binary(6, 0, 1), y.constant(8, 0));
        due(says + "all but the first one", 0, y.fixed(onlyFirst, false));
        y.require(y.unary(19, onlyLast));
        due(says + "without the last one", 1, y.fixed(onlyLast, false));
        y.require(y.unary(19, onlyFirst));
        due(says + "without the first one", 1, y.fixed(onlyFirst, false));
    }

    private static void limits() {
        WordSolver x = withVariables(8);
        for (int limit : new int[] {MIN, -1, 0, 201, 202, 256, MAX}) {
            CHECK.argumentThrown("if limit is out of range: models " + limit, () -> x.models(limit));
            CHECK.argumentThrown("if limit is out of range: values " + limit, () -> x.values(0, limit));
        }
        for (int limit : new int[] {1, 2, 199, 200}) {
            due("but at most limit: 256 models", limit, x.models(limit));
            due("but at most limit: 256 values", limit, x.values(0, limit));
        }
        for (int bound : new int[] {1, 2, 63, 64, 65, 199, 200, 201}) {
            WordSolver y = withVariables(8);
            y.require(y.binary(14, 0, y.constant(8, bound)));
            due("the number of models: " + bound, Math.min(200, bound), y.models(200));
            due("the number of values: " + bound, Math.min(200, bound), y.values(0, 200));
            if (bound <= 200) {
                due("the number of models, at most itself", bound, y.models(bound));
                due("the number of values, at most itself", bound, y.values(0, bound));
            }
            if (bound > 1) {
                due("the number of models, at most one fewer", Math.min(200, bound - 1), y.models(Math.min(200, bound - 1)));
                due("the number of values, at most one fewer", Math.min(200, bound - 1),
                        y.values(0, Math.min(200, bound - 1)));
            }
            if (bound < 200) {
                due("the number of models, at most one more", bound, y.models(bound + 1));
                due("the number of values, at most one more", bound, y.values(0, bound + 1));
            }
            due("the last value", Math.min(199, bound - 1), y.valueAt(0, Math.min(199, bound - 1)));
            due("none behind the last value", NONE, y.valueAt(0, bound));
        }
        for (int[] widths : SHAPES) {
            int bits = bits(widths);
            due("all assignments of " + bits + " bits", Math.min(200, 1 << bits), withVariables(widths).models(200));
        }
    }

    private static void valuesInAscendingOrder() {
        String says = "one of the different values that a node has in models, in ascending order: ";
        WordSolver x = withVariables(8);
        for (int k = 0; k < 200; k++) {
            due(says + k, k, x.valueAt(0, k));
        }
        for (int k : new int[] {MIN, -1, 200, 201, 255, 256, MAX}) {
            due("NONE if k is out of range: " + k, NONE, x.valueAt(0, k));
        }
        WordSolver y = withVariables(8);
        int inverted = y.unary(19, 0);
        int part = y.slice(0, 7, 6);
        due(says + "not the order of the models", 0, y.valueAt(inverted, 0));
        due(says + "not the order of the models", 199, y.valueAt(inverted, 199));
        for (int k = 0; k < 4; k++) {
            due(says + "each value once", k, y.valueAt(part, k));
        }
        due("NONE if there are not so many", NONE, y.valueAt(part, 4));
        due("NONE if there are not so many", NONE, y.valueAt(part, 199));
        y.require(y.binary(14, y.constant(8, 199), 0));
        due("values above 199", 200, y.valueAt(0, 0));
        due("values above 199", 255, y.valueAt(0, 55));
        due("NONE if there are not so many", NONE, y.valueAt(0, 56));
        due("another node is asked for in between", 0, y.valueAt(inverted, 0));
        due("another node is asked for in between", 55, y.valueAt(inverted, 55));
    }

    private static void theSameValueInEachModel() {
        String says = "whether two nodes have the same value in each model: ";
        for (int[] widths : SHAPES) {
            WordSolver x = withVariables(widths);
            int all = x.constant(1, 1);
            int none = all;
            for (int v = 0; v < widths.length; v++) {
                all = x.binary(5, all, x.binary(13, v, x.constant(widths[v], full(widths[v]))));
                none = x.binary(5, none, x.binary(13, v, x.constant(widths[v], 0)));
            }
            int never = x.constant(1, 0);
            due(says + "a node and itself", true, x.equivalent(all, all));
            due(says + "different in the last one alone", false, x.equivalent(all, never));
            due(says + "different in the first one alone", false, x.equivalent(never, none));
            for (int v = 0; v < widths.length; v++) {
                due("the least of the models in which two nodes have different values: the last one",
                        full(widths[v]), x.counterexample(all, never, v));
                due("the least of the models in which two nodes have different values: the first one",
                        0, x.counterexample(never, none, v));
                due("NONE if there is no such model", NONE, x.counterexample(all, all, v));
            }
            x.require(x.unary(19, all));
            due(says + "without the last one", true, x.equivalent(all, never));
            due("NONE if there is no such model", NONE, x.counterexample(all, never, 0));
        }
    }

    private static void widthsThatAreDifferent() {
        for (int w = 1; w < 8; w++) {
            WordSolver x = withVariables(w, w + 1);
            CHECK.argumentThrown("if their widths are different: " + w, () -> Check.bool(x.equivalent(0, 1)));
            CHECK.argumentThrown("if their widths are different: " + w, () -> Check.bool(x.equivalent(1, 0)));
            CHECK.argumentThrown("if the widths of the nodes are different: " + w, () -> x.counterexample(0, 1, 0));
            CHECK.argumentThrown("if the widths of the nodes are different: " + w, () -> x.counterexample(1, 0, 1));
        }
    }

    // ---- conflicts

    private static void theCore() {
        String says = "each one is taken out if those that are left without it are still a conflict: ";
        WordSolver x = withVariables(8, 8);
        int one = x.constant(1, 1);
        int zero = x.constant(1, 0);
        due("NONE if there is a model: no constraints", NONE, x.core());
        x.require(one);
        due("NONE if there is a model", NONE, x.core());
        x.require(zero);
        due("constraint k belongs to the core: 1", 0b10, x.core());
        x.require(one);
        due("constraint k belongs to the core: still 1", 0b10, x.core());
        x.require(zero);
        due(says + "the earlier one of two", 0b1000, x.core());
        WordSolver y = withVariables(2);
        for (int word = 0; word < 4; word++) {
            y.require(y.unary(19, y.binary(13, 0, y.constant(2, word))));
        }
        due(says + "none of them", 0b1111, y.core());
        y.require(y.binary(14, 0, y.constant(2, 3)));
        due(says + "the last one takes the place of the fourth", 0b10111, y.core());
        WordSolver last = withVariables(8, 8);
        last.require(last.binary(13, last.binary(5, 0, 1), last.constant(8, 255)));
        last.require(last.binary(16, 0, 1));
        due(says + "only the last assignment is left by the first one", 0b11, last.core());
        due("a core is no change", 0b11, last.core());
    }

    private static void theCoreOf20Constraints() {
        WordSolver x = withVariables(1);
        int not = x.unary(19, 0);
        x.require(not);
        for (int k = 1; k < 20; k++) {
            x.require(0);
        }
        due("bit k is 1 if constraint k belongs to the core: the first and the last one", 1 << 19 | 1, x.core());
        WordSolver y = withVariables(8, 8);
        int bits = 0;
        for (int v = 0; v < 2; v++) {
            for (int bit = 0; bit < 8; bit++) {
                y.require(y.slice(v, bit, bit));
                bits++;
            }
        }
        due("sixteen constraints with one model", 1, y.models(200));
        due("NONE if there is a model", NONE, y.core());
        int all = y.binary(13, y.binary(5, 0, 1), y.constant(8, 255));
        y.require(y.unary(19, all));
        due("all seventeen", (1 << (bits + 1)) - 1, y.core());
        y.require(y.constant(1, 0));
        due("one alone, the others are taken out", 1 << (bits + 1), y.core());
        y.undo();
        y.push();
        y.require(y.unary(19, 2));
        due("the earlier ones are taken out: the first one is needed", 1 << (bits + 1) | 1, y.core());
        y.pop();
        due("without the level again", (1 << (bits + 1)) - 1, y.core());
        y.require(y.binary(13, 0, 1));
        y.require(y.binary(15, 0, 1));
        y.require(y.unary(19, all));
        // with both variables equal those for the bits of variable 0 are taken out, then the first one of the two alike
        due("twenty constraints on 16 bits", 0xFF00 | 1 << 17 | 1 << 19, y.core());
    }

    // ---- WISHES

    private static void atMost8Wishes() {
        WordSolver x = withVariables(1);
        for (int k = 1; k <= 8; k++) {
            due("Returns the number of wishes afterwards", k, x.wish(0, 9));
        }
        CHECK.stateThrown("There are at most 8 wishes", () -> x.wish(0, 1));
        due("the sum of the weights: the greatest", 72, x.gain());
        x.undo();
        due("room again", 8, x.wish(0, 1));
        due("Returns how many there were: all", 8, x.clearWishes());
        due("Returns how many there were: none", 0, x.clearWishes());
        due("room again", 1, x.wish(0, 1));
        due("Returns how many there were: one", 1, x.clearWishes());
    }

    private static void aWeightFrom1To9() {
        for (int weight : new int[] {MIN, -1, 0, 10, 11, MAX}) {
            WordSolver x = withVariables(1);
            CHECK.argumentThrown("weight is out of range: " + weight, () -> x.wish(0, weight));
            due("the refused one is no wish", 0, x.clearWishes());
        }
        for (int weight = 1; weight <= 9; weight++) {
            WordSolver x = withVariables(1);
            due("a weight from 1 to 9", 1, x.wish(0, weight));
            due("the sum of the weights", weight, x.gain());
        }
        for (int width = 2; width <= 8; width++) {
            WordSolver x = withVariables(width);
            CHECK.argumentThrown("if the width of the node is not 1: " + width, () -> x.wish(0, 1));
        }
    }

    private static void theGain() {
        String says = "the sum of the weights of the wishes whose nodes have the value 1: ";
        WordSolver x = withVariables(4, 4);
        due(says + "without wishes", 0, x.gain());
        int never = x.constant(1, 0);
        x.wish(never, 9);
        due(says + "none of them", 0, x.gain());
        int big = x.binary(14, x.constant(4, 14), 0);
        x.wish(big, 2);
        due(says + "only the last words of variable 0", 2, x.gain());
        int small = x.unary(19, big);
        x.wish(small, 2);
        due(says + "one of two that exclude each other", 2, x.gain());
        due("the least one of the models with the greatest gain", 0, x.bestWitness(0));
        x.wish(big, 1);
        due(says + "the same node twice", 3, x.gain());
        due("the best model", 15, x.bestWitness(0));
        due("the least one of the models with the greatest gain", 0, x.bestWitness(1));
    }

    private static void theBestModel() {
        String says = "The best model is the least one of the models with the greatest gain: ";
        for (int[] widths : SHAPES) {
            WordSolver x = withVariables(widths);
            int last = widths.length - 1;
            for (int v = 0; v < widths.length; v++) {
                due(says + "without wishes the least model", 0, x.bestWitness(v));
            }
            x.wish(x.slice(last, 0, 0), 1);
            for (int v = 0; v < widths.length; v++) {
                due(says + "an odd last variable", v == last ? 1 : 0, x.bestWitness(v));
            }
            int all = x.constant(1, 1);
            for (int v = 0; v < widths.length; v++) {
                all = x.binary(5, all, x.binary(13, v, x.constant(widths[v], full(widths[v]))));
            }
            x.wish(all, 9);
            for (int v = 0; v < widths.length; v++) {
                due(says + "the last model", full(widths[v]), x.bestWitness(v));
            }
            due("its gain", 10, x.gain());
            x.require(x.unary(19, all));
            due("a constraint forbids it: another odd one, if there is one", bits(widths) > 1 ? 1 : 0, x.gain());
            x.clearWishes();
            due("without wishes", 0, x.gain());
            due("without wishes", 0, x.bestWitness(last));
        }
    }

    /** Comparisons of two variables, each with the number of pairs by which they are true. */
    private static void comparisonsInAllModels() {
        for (int w = 1; w <= 3; w++) {
            int words = 1 << w;
            int pairs = words * (words - 1) / 2;
            int[] counts = {words, pairs, pairs + words, pairs, pairs + words};
            for (int k = 0; k < 5; k++) {
                WordSolver x = withVariables(w, w);
                x.require(x.binary(13 + k, 0, 1));
                due("models of kind " + (13 + k) + " in " + w + " bits", counts[k], x.models(200));
                x.require(x.slice(0, w - 1, w - 1));
                int half = words / 2;
                int below = half * (half - 1) / 2;
                int[] upper = {half, below, below + half, below + half * half, below + half + half * half};
                due("models of kind " + (13 + k) + " in " + w + " bits with the highest bit", upper[k], x.models(200));
            }
        }
    }

    /** 40 nodes: variables 0 of 6 bits and 1 of 1 bit, then bits that are turned over; node 20 begins anew. */
    private static WordSolver chain() {
        WordSolver x = withVariables(6, 1);
        int bit = 1;
        for (int k = 2; k < 40; k++) {
            bit = k == 20 ? x.slice(0, 5, 5) : x.unary(19, bit);
        }
        return x;
    }

    /** The variable of which a bit of the chain is made. */
    private static int variableOf(int node) {
        return node < 20 ? 1 : 0;
    }

    /** The least word of that variable with which the bit is 1. */
    private static int wordFor1(int node) {
        return node < 20 ? node % 2 : 32 * (1 - node % 2);
    }

    private static int wordFor0(int node) {
        return node < 20 ? 1 - node % 2 : 32 * (node % 2);
    }

    private static void eachOf40Nodes() {
        WordSolver x = chain();
        due("40 nodes", 40, x.nodes());
        for (int node = 1; node < 40; node++) {
            int variable = variableOf(node);
            due("its greatest value, node " + node, wordFor1(node), x.extremeWitness(node, true, variable));
            due("its smallest value, node " + node, wordFor0(node), x.extremeWitness(node, false, variable));
            due("none of its bits is fixed, node " + node, 0, x.fixed(node, false));
            due("both values, node " + node, 2, x.values(node, 3));
            due("the only wish, node " + node, 1, x.wish(node, 1));
            due("its gain, node " + node, 1, x.gain());
            due("its best model, node " + node, wordFor1(node), x.bestWitness(variable));
            x.clearWishes();
        }
    }

    private static void eachOf40NodesAsAConstraint() {
        for (int node = 1; node < 40; node++) {
            int turned = node == 1 || node == 20 ? node + 1 : node - 1;
            WordSolver x = chain();
            due("different in each model, node " + node, 0, Check.bool(x.equivalent(node, turned)));
            due("a constraint, node " + node, 0, x.require(node));
            due("half of the models, node " + node, 64, x.models(200));
            due("witness, node " + node, wordFor1(node), x.witness(variableOf(node)));
            due("it is fixed, node " + node, 1, x.fixed(node, true));
            due("the other one, too, node " + node, 0, x.fixed(turned, true));
            due("a conflict, node " + node, 1, x.require(turned));
            due("core, node " + node, 0b11, x.core());
        }
    }

    public static void main(String[] args) {
        atMost20Constraints();
        nodesOfWidth1();
        atFirstThereIsOnlyLevel0();
        atMostLevel5();
        removesTheLatestLevel();
        constraintsThatDoNotExist();
        allConstraintsHaveTheValue1();
        modelsAreOrdered();
        withoutVariablesThereIsOneAssignment();
        noModel();
        variablesThatDoNotExist();
        nodesThatDoNotExist();
        smallestAndGreatest();
        theLeastOfThoseModels();
        bitsThatHaveTheSameValueInAllModels();
        limits();
        valuesInAscendingOrder();
        theSameValueInEachModel();
        widthsThatAreDifferent();
        comparisonsInAllModels();
        eachOf40Nodes();
        eachOf40NodesAsAConstraint();
        theCore();
        theCoreOf20Constraints();
        atMost8Wishes();
        aWeightFrom1To9();
        theGain();
        theBestModel();
        CHECK.close("boundaries of constraints, models and wishes");
    }
}
