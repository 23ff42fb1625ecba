import java.util.Arrays;

/**
 * The boundary cases that the document names for texts (TEXTS and the promises 34 to 39), each check under the words of
 * the sentence that it is about.
 */
public final class TextBoundaryTest {
    private static final int MIN = Solvers.MIN;
    private static final int MAX = Solvers.MAX;
    private static final int NONE = WordSolver.NONE;
    private static final Check CHECK = new Check();

    /** The words of the kinds 2 to 24 with the nodes and the digits that they want. */
    private static final String[] WORDS = {"add", "sub", "mul", "and", "or", "xor", "shl", "shr", "sar", "div", "rem",
        "eq", "lt", "le", "slt", "sle", "cat", "not", "neg", "slice", "zext", "sext", "ite"};

    private static int nodesOf(String word) {
        switch (word) {
            case "not":
            case "neg":
            case "slice":
            case "zext":
            case "sext":
                return 1;
            case "ite":
                return 3;
            default:
                return 2;
        }
    }

    private static int digitsOf(String word) {
        return word.equals("slice") ? 2 : word.endsWith("ext") ? 1 : 0;
    }

    private static void due(String what, long want, long got) {
        CHECK.due(what, want, got);
    }

    private static void dueError(String says, String text, int position) {
        due(says + ": \"" + text + "\"", position, Solvers.typed(text).syntaxError());
    }

    private static void dueGood(String says, String text) {
        dueError(says, text, NONE);
    }

    /** What stands before the sign ^ must be without error till there; the sign is not part of the text. */
    private static void dueAt(String says, String marked) {
        int position = marked.indexOf('^');
        dueError(says, marked.substring(0, position) + marked.substring(position + 1), position);
    }

    // ---- the characters

    private static void atMost120Characters() {
        WordSolver x = new WordSolver();
        for (int length = 1; length <= 120; length++) {
            due("Returns the length of the text afterwards", length, x.append(32 + length % 95));
        }
        CHECK.stateThrown("if the text has 120 characters", () -> x.append(65));
        CHECK.stateThrown("if the text has 120 characters", () -> x.append(32));
        for (int index = 0; index < 120; index++) {
            due("Returns its code: " + index, 32 + (index + 1) % 95, x.character(index));
        }
        due("NONE if there is no such character: 120 of 120", NONE, x.character(120));
        due("Returns the length that it had", 120, x.clearText());
        due("NONE if there is no such character: 0 of none", NONE, x.character(0));
        due("Empties the text", 1, x.append(126));
        due("Returns the length that it had", 1, x.clearText());
        due("Returns the length that it had", 0, x.clearText());
    }

    private static void codesFrom32To126() {
        WordSolver x = new WordSolver();
        for (int c : new int[] {MIN, -1, 0, 9, 10, 31, 127, 128, 160, 255, 256 + 65, 65536 + 65, MAX}) {
            CHECK.argumentThrown("if c is out of range: " + c, () -> x.append(c));
        }
        due("what threw appended nothing", 0, x.clearText());
        for (int c = 32; c <= 126; c++) {
            due("its code, 32 to 126: " + c, c - 31, x.append(c));
        }
        for (int c = 32; c <= 126; c++) {
            due("Returns its code: " + c, c, x.character(c - 32));
        }
    }

    private static void charactersThatDoNotExist() {
        WordSolver x = Solvers.typed("v0 ");
        due("the first character", 'v', x.character(0));
        due("the last character", ' ', x.character(2));
        for (int index : new int[] {MIN, -1, 3, 4, 119, 120, 121, MAX}) {
            due("NONE if there is no such character: " + index, NONE, x.character(index));
        }
    }

    // ---- the grammar

    private static String called(String word, int nodes, int digits) {
        StringBuilder all = new StringBuilder("(").append(word);
        for (int k = 0; k < nodes; k++) {
            all.append(" v").append(k);
        }
        for (int k = 0; k < digits; k++) {
            all.append(' ').append(9 - k);
        }
        return all.append(')').toString();
    }

    private static void asManyNodesAsItWants() {
        String says = "with a word there must be as many nodes as it wants";
        for (String word : WORDS) {
            int nodes = nodesOf(word);
            int digits = digitsOf(word);
            dueGood(says, called(word, nodes, digits));
            int wordEnd = 1 + word.length();
            int behindNodes = wordEnd + 3 * nodes;
            for (int fewer = 0; fewer < nodes; fewer++) {
                // without digits the parenthesis, otherwise the first digit's space and then the digit is looked at
                String text = called(word, fewer, 0);
                dueError(says, text, text.length() - 1);
            }
            dueError(says, called(word, nodes + 1, digits), behindNodes + 1);
            for (int fewer = 0; fewer < digits; fewer++) {
                String text = called(word, nodes, fewer);
                dueError(says + " and digits", text, text.length() - 1);
            }
            dueError(says + " and digits", called(word, nodes, digits + 1), behindNodes + 2 * digits + 1);
        }
        dueAt("a digit where a node is wanted begins a number", "(slice 3 ^1)");
        dueAt("a digit where a node is wanted begins a number", "(zext 8^)");
        dueAt("a node where a digit is wanted", "(slice v0 ^v1 1)");
        dueAt("a node where a digit is wanted", "(slice v0 3 ^(not v0))");
        dueAt("a number where a digit is wanted", "(sext v0 5^:8)");
    }

    private static void theTextEndsTooEarly() {
        String says = "or the length of the text if it ends too early (also behind a whole word or number)";
        for (String word : WORDS) {
            String whole = called(word, nodesOf(word), digitsOf(word));
            for (int length = 0; length < whole.length(); length++) {
                String text = whole.substring(0, length);
                if (text.endsWith("v") && length > 1 + word.length()) {
                    dueError("of a \"v\" that is not directly followed by a digit", text, length - 1);
                } else if (length > 1 && length < 1 + word.length()) {
                    dueError("of a word that is none of these (also if the text ends behind it)", text, 1);
                    dueError("of a word that is none of these (also if the text ends behind it)", text + " ", 1);
                } else {
                    dueError(says, text, length);
                    dueError(says, text + "  ", length + 2);
                }
            }
        }
        dueError(says, "5", 1);
        dueError(says, "99", 2);
        dueError(says, "999", 3);
        dueError(says, "999:", 4);
        dueError(says, "999 : ", 6);
        dueError(says, "(ite v0 5", 9);
        dueError(says, "(ite v0 5:8 v1", 14);
        dueError(says, "", 0);
        dueError(says, " ", 1);
        dueError(says, " ".repeat(120), 120);
        dueError(says, " ".repeat(119) + "(", 120);
        dueError(says, " ".repeat(119) + "7", 120);
        dueError(says, "(or".repeat(40), 120);
        dueError(says, "(le ".repeat(30), 120);
        dueError(says, "(not".repeat(30), 120);
    }

    private static void aWordThatIsNoneOfThese() {
        String says = "of a word that is none of these, its first letter";
        for (String word : WORDS) {
            for (String wrong : new String[] {word + "a", word + "z", word + "v", "a" + word, word + word,
                word.substring(1), word.substring(0, word.length() - 1), word + "vv", "v" + word}) {
                if (Arrays.asList(WORDS).contains(wrong)) {
                    continue;
                }
                dueError(says, "(" + wrong + " v0 v1)", 1);
                dueError(says, "(" + wrong, 1);
                dueError(says, "(  " + wrong + "(", 3);
                dueError(says, "(not(" + wrong, 5);
            }
            dueError("the first character of what cannot stand there", word + " v0", word.charAt(0) == 'v' ? 1 : 0);
            dueError("the first character of what cannot stand there", "(not " + word + ")", 5);
            dueError("the first character of what cannot stand there", "v0 " + word, 3);
        }
        dueAt(says, "(^zzzzzzzzzzzzzzzzzzzzzzzzz v0)");
        dueAt(says, "(^a)");
        dueAt("no word at all", "(^)");
        dueAt("no word at all", "(^(");
        dueAt("no word at all", "(^5:8)");
        dueAt("no word at all", "(^v0)");
        dueAt("no word at all", "(  ^v0)");
        dueAt("letters a to z", "(^Add v0 v1)");
        dueAt("letters a to z", "(^aDd v0 v1)");
        dueAt("letters a to z: behind a whole word", "(add^D v0 v1)");
        dueAt("letters a to z: the sign before a", "(add^` v0 v1)");
        dueAt("letters a to z: the sign behind z", "(add^{ v0 v1)");
    }

    private static void asLongAsPossible() {
        String says = "as long as possible, but a \"v\" that is directly followed by a digit does not belong to it";
        for (String word : WORDS) {
            String nodes = nodesOf(word) == 1 ? "v0" : nodesOf(word) == 2 ? "v0v1" : "v0v1v2";
            String digits = digitsOf(word) == 0 ? "" : digitsOf(word) == 1 ? " 8" : " 3 1";
            dueGood(says, "(" + word + nodes + digits + ")");
            dueError(says, "(" + word + nodes.replace("v0", "5:8") + digits + ")", word.equals("div") ? 1 : NONE);
            dueGood(says, "(" + word + nodes.replace("v0", "(not v0)") + digits + ")");
            dueError(says, "(" + word + "v" + nodes + digits + ")", 1);
            dueError(says, "(" + word + "v", 1);
            dueError(says, "(" + word + "v ", 1);
        }
        dueAt(says, "(^di v0 v1)");
        dueError(says, "(div0 v1)", 1);
        dueGood(says, "(divv0v1)");
        dueError(says, "(divvv0v1)", 1);
    }

    private static void aVThatIsNotFollowedByADigit() {
        String says = "of a \"v\" that is not directly followed by a digit where a node is wanted, the \"v\"";
        String[] heads = {"", "  ", "(not", "(not ", "(add v0 ", "(add 5:8", "(ite v0 v1 ", "(slice ", "(zext "};
        String[] tails = {"", " ", " 0", "v0", "a", ")", "(", ":", ":8", "/", "x7"};
        for (String head : heads) {
            for (String tail : tails) {
                // directly behind a word that "v" would be a letter of it
                int at = head.equals("(not") && !tail.startsWith("0") ? 1 : head.length();
                dueError(says, head + "v" + tail, at);
            }
        }
        dueAt("where no node is wanted", "v0 ^v1");
        dueAt("where no node is wanted", "v0 ^v");
        dueAt("where no node is wanted", "(not v0 ^v");
        dueAt("where no node is wanted", "(slice v0 3 ^v");
        dueAt("where no node is wanted", "5:^v");
        for (int digit = 0; digit <= 9; digit++) {
            dueGood("\"v\" digit", "v" + digit);
        }
        dueAt("\"v\" digit: the sign before 0", "^v/");
        dueAt("\"v\" digit: the sign behind 9", "^v:");
    }

    private static void aNumberHas1To3Digits() {
        String says = "of a number with more than 3 digits, the fourth digit";
        for (String number : new String[] {"0", "9", "00", "10", "99", "000", "007", "100", "255", "999"}) {
            dueGood("A number has 1 to 3 digits", number + ":8");
            dueGood("A number has 1 to 3 digits", " " + number + " : 8 ");
            dueGood("A number has 1 to 3 digits", "(not" + number + ":8)");
        }
        for (String rest : new String[] {"", "0", "5", "99999", ":8", " :8", " ", "v0", ")"}) {
            dueAt(says, "123^4" + rest);
            dueAt(says, "000^0" + rest);
            dueAt(says, "  999^9" + rest);
            dueAt(says, "(add v0 255^0" + rest);
        }
        dueAt("behind a number stands \":\"", "5^v0");
        dueAt("behind a number stands \":\"", "5 ^5:8");
        dueAt("behind a number stands \":\"", "55^)");
        dueAt("behind a number stands \":\"", "555^;8");
        dueAt("behind \":\" stands a digit", "5:^:8");
        dueAt("behind \":\" stands a digit", "5: ^v0");
        dueAt("behind \":\" stands a digit", "5:^)");
        dueAt("no number", "^:8");
        dueAt("no number", "^-5:8");
        dueAt("no number", "^+5:8");
        dueAt("no number: the sign before 0", "^/5:8");
    }

    private static void aDigitThatIsNoPartOfANumber() {
        String says = "A digit that is no part of a number must not be directly followed by another digit";
        dueAt(says, "v0^0");
        dueAt(says, "v1^23");
        dueAt(says, "5:8^8");
        dueAt(says, "5:0^1 ");
        dueAt(says, "(add v0^1 v1)");
        dueAt(says, "(add 5:8^5:8)");
        dueAt(says, "(slice v0^3 1)");
        dueAt(says, "(slice v0 3^1)");
        dueAt(says, "(slice v0 3^1 0)");
        dueAt(says, "(slice v0 3 1^0)");
        dueAt(says, "(slice 5:8^3 1)");
        dueAt(says, "(slice (not v0)3^1)");
        dueAt(says, "(zext v0 0^8)");
        dueAt(says, "(sext v0 8^8");
        dueGood("directly followed by something else", "(slice(not v0)3 1)");
        dueGood("directly followed by something else", "(add 5:8v0)");
        dueGood("directly followed by something else", "(add 5:8(not v0))");
        dueGood("directly followed by something else", "(zext v0 8)");
    }

    private static void spacesMayStand() {
        String says = "Spaces may stand before and behind words, \"v\" with its digit, numbers, \":\", digits and parentheses";
        dueGood(says, "  v0  ");
        dueGood(says, "  5  :  8  ");
        dueGood(says, "  (  add  v0  5  :  8  )  ");
        dueGood(says, "  (  slice  v0  3  1  )  ");
        dueGood(says, "  (  zext  (  not  v0  )  8  )  ");
        dueGood(says, "(ite(eq v0 5:8)v0(neg v0))");
        dueGood(says, "v0" + " ".repeat(118));
        dueGood(says, " ".repeat(118) + "v0");
        dueGood(says, " ".repeat(117) + "5:8");
        dueError("a text of 120 characters", " ".repeat(119) + "v", 119);
        dueError("a text of 120 characters", "v0" + " ".repeat(117) + "x", 119);
        dueError("a text of 120 characters", " ".repeat(116) + "0000", 119);
        dueAt("\"v\" and its digit belong together", "^v 0");
        dueAt("\"v\" and its digit belong together", "(not ^v 0)");
        dueAt("no space inside a number", "1 ^2:8");
        dueAt("no space inside a word", "(^a dd v0 v1)");
        dueAt("no space inside a word", "(^z ext v0 8)");
        for (char c : new char[] {'!', '"', '\'', '*', ',', '-', '.', '/', ';', '=', '?', '@', 'V', '[', '_', '~'}) {
            dueError("the first character of what cannot stand there", c + "v0", 0);
            dueError("the first character of what cannot stand there", "v0" + c, 2);
            dueError("the first character of what cannot stand there", "v0 " + c, 3);
            dueError("the first character of what cannot stand there", "(" + c, 1);
            dueError("the first character of what cannot stand there", "(add" + c, 4);
            dueError("the first character of what cannot stand there", "(add v0" + c, 7);
            dueError("the first character of what cannot stand there", "(not v0" + c, 7);
            dueError("the first character of what cannot stand there", "5" + c, 1);
            dueError("the first character of what cannot stand there", "5:" + c, 2);
            dueError("the first character of what cannot stand there", "(zext v0 " + c, 9);
        }
    }

    private static void behindAWholeNode() {
        String says = "the first character of what cannot stand there";
        dueAt(says, "v0^)");
        dueAt(says, "v0 ^v1");
        dueAt(says, "v0 ^5:8");
        dueAt(says, "v0^(not v0)");
        dueAt(says, "5:8^:8");
        dueAt(says, "(not v0)^)");
        dueAt(says, "(not v0) ^v0");
        dueAt(says, "(not v0)  ^(");
        dueAt(says, "^)");
    }

    private static void deepTexts() {
        for (int depth : new int[] {1, 2, 10, 22, 23}) {
            String text = "(not".repeat(depth) + " v0" + ")".repeat(depth);
            dueGood("as deep as 120 characters go", text);
            dueError("as deep as 120 characters go", text.substring(0, text.length() - 1), text.length() - 1);
            dueError("as deep as 120 characters go", text + ")", text.length());
            WordSolver x = new WordSolver();
            x.variable(8);
            due("read, as deep as 120 characters go", depth, Solvers.read(x, text));
            due("a node each", depth + 1, x.nodes());
        }
        String wide = "(or(or(or(or v0v0)(or v0v0))(or(or v0v0)(or v0v0)))(or(or(or v0v0)(or v0v0))(or(or v0v0)(or v0v0))))";
        dueGood("many nodes", wide);
        WordSolver x = new WordSolver();
        x.variable(1);
        due("many nodes, none made twice", 4, Solvers.read(x, wide));
        due("the text stays", wide.length(), x.clearText());
    }

    /** What was open or whole in the text before plays no part. */
    private static void oneTextAfterTheOther() {
        String[] texts = {"(add (sub", "v0", "(slice v0 3", "(not v0)", "", "5:", "5:8", "(zzz", "(ite v0 v0", "v0 v0", " "};
        int[] errors = {9, NONE, 11, NONE, 0, 2, NONE, 1, 10, 3, 1};
        WordSolver x = new WordSolver();
        for (int round = 0; round < 2; round++) {
            for (int k = 0; k < texts.length; k++) {
                Solvers.type(x, texts[k]);
                due("the text that is there: \"" + texts[k] + "\"", errors[k], x.syntaxError());
                due("asked again: \"" + texts[k] + "\"", errors[k], x.syntaxError());
            }
        }
        WordSolver y = new WordSolver();
        String text = "(add (not 5:8) (slice v0 3 1))";
        for (int k = 0; k < text.length(); k++) {
            due("it ends too early after each character", k > 1 && k < 4 ? 1 : k > 6 && k < 9 ? 6 : k > 16 && k < 21 ? 16
                    : k == 23 ? 22 : k, y.syntaxError());
            y.append(text.charAt(k));
        }
        due("and then it describes a node", NONE, y.syntaxError());
    }

    private static void variablesAndWidthsPlayNoPart() {
        String says = "(Which variables there are, and widths, play no part in this.)";
        for (String text : new String[] {"v0", "v9", "0:0", "999:9", "256:8", "2:1", "(add 1:1 1:2)", "(cat 1:8 1:8)",
            "(slice v0 0 9)", "(slice 1:1 9 9)", "(zext v0 0)", "(sext 1:8 9)", "(ite 1:8 1:1 1:2)", "(neg 0:9)"}) {
            dueGood(says, text);
            CHECK.stateThrown("IllegalStateException from read: " + text, Solvers.typed(text)::read);
        }
    }

    // ---- read

    private static void variablesThatDoNotExist() {
        for (int count = 0; count <= 4; count++) {
            WordSolver x = new WordSolver();
            for (int v = 0; v < count; v++) {
                x.variable(4);
            }
            for (int v = 0; v <= 9; v++) {
                Solvers.type(x, "v" + v);
                if (v < count) {
                    due("a variable that exists: " + v + " of " + count, v, x.read());
                } else {
                    CHECK.stateThrown("if the text names a variable that does not exist: " + v + " of " + count, x::read);
                }
            }
        }
        WordSolver x = new WordSolver();
        x.constant(8, 1);
        x.variable(8);
        due("\"v0\" is variable 0, not node 0", 1, Solvers.read(x, "v0"));
    }

    private static void oneOfTheMethodsWouldThrow() {
        String[] refused = {"0:0", "0:9", "2:1", "4:2", "256:8", "999:8", "128:7", "(add v0 v1)", "(sub v1 v0)",
            "(eq v0 1:5)", "(cat v0 v1)", "(cat 0:1 0:8)", "(slice v0 4 0)", "(slice v0 0 1)", "(slice v0 9 9)",
            "(zext v0 4)", "(zext v0 3)", "(zext v0 9)", "(sext v0 0)", "(sext v1 8)", "(ite v0 v0 v0)",
            "(ite 1:1 v0 v1)", "(ite 1:1 v1 v0)", "(not (add (neg v0) (neg v1)))"};
        for (String text : refused) {
            WordSolver x = new WordSolver();
            x.variable(4);
            x.variable(8);
            Solvers.type(x, text);
            long before = x.digest();
            CHECK.stateThrown("one of the methods would throw an exception: " + text, x::read);
            due("then no node is made: " + text, 2, x.nodes());
            due("nothing else has changed: " + text, before, x.digest());
        }
        String[] good = {"0:1", "1:1", "3:2", "255:8", "127:7", "000:8", "(slice v0 3 3)", "(slice v0 3 0)",
            "(slice v1 7 0)", "(zext v0 5)", "(sext v0 8)", "(cat v0 v0)", "(cat (slice v1 6 0) (slice v1 7 7))",
            "(ite (slice v0 0 0) v1 v1)", "(lt v1 v1)"};
        for (String text : good) {
            WordSolver x = new WordSolver();
            x.variable(4);
            x.variable(8);
            int node = Solvers.read(x, text);
            due("the last node is the one that the text describes: " + text, x.nodes() - 1, node);
        }
    }

    private static void afterTheNodesOfWhichItConsists() {
        String says = "Makes the node after the nodes of which it consists, from left to right: ";
        WordSolver x = new WordSolver();
        x.variable(4);
        x.variable(4);
        due(says + "number", 7, Solvers.read(x, "(ite (eq v1 v0) (add v0 1:4) (sub 2:4 v0))"));
        int[][] rows = {{2, 13, 1, 0, -1}, {3, 0, -1, -1, -1}, {4, 2, 0, 3, -1}, {5, 0, -1, -1, -1}, {6, 3, 5, 0, -1},
            {7, 24, 2, 4, 6}};
        for (int[] row : rows) {
            due(says + "kind of " + row[0], row[1], x.info(row[0], 0));
            for (int k = 0; k < 3; k++) {
                due(says + "operand of " + row[0], row[2 + k], x.info(row[0], 2 + k));
            }
        }
        due(says + "1", 1, x.info(3, 5));
        due(says + "2", 2, x.info(5, 5));
        due("Undoable: one state for all of them", 2, x.undo());
        due("Undoable: all of them", 2, x.nodes());
        due("The text stays", 42, x.clearText());
        due(says + "slice", 2, Solvers.read(x, "(slice v0 3 1)"));
        due(says + "the digits: high", 3, x.info(2, 6));
        due(says + "the digits: low", 1, x.info(2, 7));
        due(says + "zext", 3, Solvers.read(x, "(zext v0 7)"));
        due(says + "its width", 7, x.info(3, 1));
        due(says + "its kind", 22, x.info(3, 0));
        due(says + "sext", 4, Solvers.read(x, "(sext v0 5)"));
        due(says + "its kind", 23, x.info(4, 0));
        due(says + "numbers have up to three digits", 5, Solvers.read(x, "007:4"));
        due(says + "their value", 7, x.info(5, 5));
    }

    private static void moreThan40Nodes() {
        String says = "more than 40 nodes would be needed (then no node is made): ";
        for (int free = 0; free <= 4; free++) {
            WordSolver x = Solvers.withNodes(40 - free);
            Solvers.type(x, "(not (neg (not v1)))");
            if (free >= 3) {
                due(says + "three with room for " + free, 40 - free + 2, x.read());
                due("there they are", 40 - free + 3, x.nodes());
            } else {
                CHECK.stateThrown(says + "three with room for " + free, x::read);
                due(says + "none of them", 40 - free, x.nodes());
                for (int k = 0; k < free; k++) {
                    due(says + "the room is still there", 40 - free + k, x.unary(19 + k, 0));
                }
            }
        }
        WordSolver x = Solvers.withNodes(38);
        x.unary(19, 1);
        x.unary(20, 38);
        Solvers.type(x, "(neg (not v1))");
        due("no more are needed if they are there", 39, x.read());
        Solvers.type(x, "(add 2:8 3:8)");
        CHECK.stateThrown(says + "the last one only", x::read);
    }

    // ---- write

    /** The node of a text in an object with the variables 0 of 8 bits and 1 of 1 bit; written, it is that text again. */
    private static void dueWritten(String text) {
        WordSolver x = new WordSolver();
        x.variable(8);
        x.variable(1);
        int node = Solvers.read(x, text);
        Solvers.type(x, "something longer that was there before, or something shorter");
        due("Returns the length of the text: " + text, text.length(), x.write(node));
        CHECK.same("one space ahead of each node and digit inside parentheses, and no other spaces", text,
                Solvers.textOf(x));
        due("it describes the node: " + text, node, x.read());
    }

    private static void writtenTexts() {
        for (String word : WORDS) {
            if (digitsOf(word) == 0 && !word.equals("cat") && !word.equals("ite")) {
                dueWritten(nodesOf(word) == 1 ? "(" + word + " v0)" : "(" + word + " v0 v0)");
            }
        }
        for (int number = 0; number < 256; number++) {
            dueWritten(number + ":8");
        }
        for (String text : new String[] {"v0", "v1", "0:1", "1:1", "7:3",
            "(cat v1 v1)", "(ite v1 v0 v0)", "(slice v0 7 0)", "(slice v0 0 0)", "(zext v1 8)", "(sext v1 2)",
            "(slice (cat v1 v1) 1 1)", "(ite (eq v0 0:8) (add v0 1:8) (zext (sext v1 3) 8))"}) {
            dueWritten(text);
        }
        WordSolver x = new WordSolver();
        for (int v = 0; v < 4; v++) {
            x.variable(4);
        }
        for (int v = 0; v < 4; v++) {
            due("the number of a variable", 2, x.write(v));
            due("the number of a variable", '0' + v, x.character(1));
        }
    }

    /** A description of the given length: "v0", 5 or 6 characters more for each "(or ..)" or "(not ..)", and so on. */
    private static String textOfLength(int length) {
        StringBuilder head = new StringBuilder();
        StringBuilder tail = new StringBuilder();
        String core = "v0";
        int left = length - core.length();
        // "(not " and ")" are 6, "(or " and " v0)" are 8, "(add " and " v0)" are 9
        while (left % 6 != 0) {
            boolean odd = left % 2 != 0;
            head.append(odd ? "(add " : "(or ");
            tail.append(" v0)");
            left -= odd ? 9 : 8;
        }
        for (; left > 0; left -= 6) {
            head.append("(not ");
            tail.insert(0, ")");
        }
        return head + core + tail;
    }

    private static void moreThan120Characters() {
        for (int length = 106; length <= 120; length++) {
            String text = textOfLength(length);
            due("the test's own text", length, text.length());
            dueWritten(text);
        }
        for (int inner = 106; inner <= 120; inner++) {
            dueLengths(inner);
            dueNarrowLengths(inner);
        }
        WordSolver x = new WordSolver();
        int last = x.variable(1);
        for (int k = 0; k < 39; k++) {
            last = x.choice(last, last, last);
        }
        for (int k = 4; k < 40; k++) {
            int n = k;
            CHECK.stateThrown("if it would have more than 120 characters: far more", () -> x.write(n));
        }
        due("(ite v0 v0 v0), and this three times over", 50, x.write(2));
        CHECK.stateThrown("if it would have more than 120 characters: 158", () -> x.write(3));
        due("the text stays", 50, x.clearText());
    }

    /** Nodes around one whose description has the given length. */
    private static void dueLengths(int inner) {
        WordSolver x = new WordSolver();
        x.variable(8);
        int node = Solvers.read(x, textOfLength(inner));
        dueLength(x, x.unary(19, node), inner + 6);
        dueLength(x, x.binary(6, node, 0), inner + 8);
        dueLength(x, x.binary(2, node, 0), inner + 9);
        dueLength(x, x.binary(5, node, x.constant(8, 9)), inner + 10);
        dueLength(x, x.binary(5, node, x.constant(8, 10)), inner + 11);
        dueLength(x, x.binary(5, node, x.constant(8, 99)), inner + 11);
        dueLength(x, x.binary(5, x.constant(8, 100), node), inner + 12);
        dueLength(x, x.slice(node, 7, 0), inner + 12);
    }

    private static void dueNarrowLengths(int inner) {
        WordSolver x = new WordSolver();
        x.variable(7);
        int node = Solvers.read(x, textOfLength(inner));
        dueLength(x, x.extend(node, 8, false), inner + 9);
        dueLength(x, x.extend(node, 8, true), inner + 9);
        dueLength(x, x.choice(x.constant(1, 1), node, 0), inner + 13);
        dueLength(x, x.choice(x.constant(1, 1), 0, node), inner + 13);
        dueLength(x, x.binary(13, node, 0), inner + 8);
    }

    private static void dueLength(WordSolver x, int node, int length) {
        Solvers.type(x, "before");
        if (length > 120) {
            CHECK.stateThrown("if it would have more than 120 characters: " + length, () -> x.write(node));
            due("the text stays", 6, x.clearText());
        } else {
            due("Returns the length of the text: " + length, length, x.write(node));
            due("in place of what is there", length, x.clearText());
        }
    }

    private static void nodesThatDoNotExist() {
        WordSolver x = Solvers.withNodes(40);
        for (int node : new int[] {MIN, -1, 40, 41, MAX}) {
            CHECK.indexThrown("if there is no such node: write " + node, () -> x.write(node));
        }
        due("the last node exists", 4, x.write(39));
        CHECK.indexThrown("if there is no such node: 0 of none", () -> new WordSolver().write(0));
    }

    public static void main(String[] args) {
        atMost120Characters();
        codesFrom32To126();
        charactersThatDoNotExist();
        asManyNodesAsItWants();
        theTextEndsTooEarly();
        aWordThatIsNoneOfThese();
        asLongAsPossible();
        aVThatIsNotFollowedByADigit();
        aNumberHas1To3Digits();
        aDigitThatIsNoPartOfANumber();
        spacesMayStand();
        behindAWholeNode();
        deepTexts();
        oneTextAfterTheOther();
        variablesAndWidthsPlayNoPart();
        variablesThatDoNotExist();
        oneOfTheMethodsWouldThrow();
        afterTheNodesOfWhichItConsists();
        moreThan40Nodes();
        writtenTexts();
        moreThan120Characters();
        nodesThatDoNotExist();
        CHECK.close("boundaries of texts");
    }
}
