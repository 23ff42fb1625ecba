import com.sun.management.ThreadMXBean;
import java.lang.management.ManagementFactory;

/**
 * All calls of a run share one room: some 600,000 objects and arrays and 7.3 million fields and elements. An object
 * takes all its rows when it is made, but for those of the first conflict; after that calls take nothing.
 */
public final class RoomTest {
    private static final ThreadMXBean BEAN = (ThreadMXBean) ManagementFactory.getThreadMXBean();
    private static final Check CHECK = new Check();
    private static WordSolver kept;

    private static long bytes() {
        return BEAN.getThreadAllocatedBytes(Thread.currentThread().getId());
    }

    /** Fills the text by calls that make no objects. */
    private static void type(WordSolver x, String text) {
        x.clearText();
        for (int i = 0; i < text.length(); i++) {
            x.append(text.charAt(i));
        }
    }

    private static WordSolver rich() {
        WordSolver x = new WordSolver();
        x.variable(8);
        x.variable(8);
        int one = x.constant(8, 1);
        int quotient = x.binary(11, 0, 1);
        int rest = x.binary(12, 0, 1);
        x.require(x.binary(14, rest, quotient));
        x.wish(x.binary(13, rest, one), 5);
        x.wish(x.binary(16, quotient, 0), 3);
        return x;
    }

    private static long askAll(WordSolver x) {
        long sum = x.digest() + x.models(200) + x.witness(0) + x.core() + x.gain() + x.bestWitness(1);
        for (int node = 0; node < x.nodes(); node++) {
            sum += x.fixed(node, true) + x.values(node, 200) + x.valueAt(node, 7) + x.info(node, 8);
            sum += x.value(node, true) + x.extremeWitness(node, true, 1);
            sum += x.equivalent(node, node) ? 1 : 0;
            sum += x.counterexample(node, node, 0);
        }
        return sum;
    }

    private static long changeAll(WordSolver x) {
        long sum = x.push() + x.pop() + x.require(5) + x.input(0, 77) + x.wish(5, 1) + x.clearWishes();
        type(x, "(eq (add v0 v1) (mul v0 (not 5:8)))");
        sum += x.syntaxError() + x.read() + x.write(0) + x.character(0);
        for (int k = 0; k < 5; k++) {
            sum += x.undo();
        }
        return sum;
    }

    private static long conflict(WordSolver x) {
        x.require(x.unary(19, x.constraint(0, false)));
        long sum = x.core();
        x.undo();
        x.undo();
        return sum;
    }

    private static void newObjects() {
        kept = new WordSolver();
        long before = bytes();
        for (int k = 0; k < 512; k++) {
            kept = new WordSolver();
        }
        // an element takes 4 bytes at least
        CHECK.due("512 new objects", true, (bytes() - before) / 4 < 7_300_000);
    }

    private static void calls() {
        WordSolver x = rich();
        long before = bytes();
        conflict(x);
        long firstConflict = bytes() - before;
        CHECK.due("the first conflict", true, firstConflict > 0 && firstConflict < 170_000);
        before = bytes();
        long sum = 0;
        for (int k = 0; k < 20; k++) {
            sum += askAll(x) + changeAll(x) + conflict(x);
        }
        long taken = bytes() - before;
        CHECK.due("all other calls take nothing (their sum is " + sum + ")", true, taken < 2_000);
    }

    public static void main(String[] args) {
        // the machine itself takes room for what it meets for the first time
        WordSolver met = rich();
        askAll(met);
        changeAll(met);
        conflict(met);
        bytes();
        newObjects();
        calls();
        CHECK.close("room");
    }
}
