/** Syntax error positions of all short texts of some characters, and of some tokens, compared with Reference. */
public final class SyntaxTest {
    private static final String[] CHARACTERS = {"v", "0", "9", ":", "(", ")", " ", "o", "r"};
    private static final String[] TOKENS = {"(", ")", "div", "not", "slice", "zext ", "v0", "v", "5", ":", "12", " "};

    private final Check check = new Check();
    private final StringBuilder text = new StringBuilder();
    private WordSolver solver = new WordSolver();
    private int calls = 0;

    /** An object is good for 512 calls. */
    private int answered() {
        if (calls + text.length() + 2 > 512) {
            solver = new WordSolver();
            calls = 0;
        }
        calls += text.length() + 2;
        solver.clearText();
        for (int i = 0; i < text.length(); i++) {
            solver.append(text.charAt(i));
        }
        return solver.syntaxError();
    }

    private int expected() {
        Reference reference = new Reference();
        for (int i = 0; i < text.length(); i++) {
            reference.append(text.charAt(i));
        }
        return reference.syntaxError();
    }

    private void allTexts(String[] parts, int left) {
        check.due(text.toString(), expected(), answered());
        if (left == 0) {
            return;
        }
        int length = text.length();
        for (String part : parts) {
            text.append(part);
            allTexts(parts, left - 1);
            text.setLength(length);
        }
    }

    public static void main(String[] args) {
        SyntaxTest test = new SyntaxTest();
        test.allTexts(CHARACTERS, 5);
        test.allTexts(TOKENS, 4);
        test.text.append("(add v0");
        test.allTexts(CHARACTERS, 3);
        test.allTexts(TOKENS, 3);
        test.text.setLength(0);
        test.text.append("(slice v0");
        test.allTexts(CHARACTERS, 4);
        test.check.close("syntax");
    }
}
