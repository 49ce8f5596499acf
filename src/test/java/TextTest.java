/** Promises 27 to 30 and 32: describe, outputByte, append, clearText, errorCount. */
public final class TextTest {
    private static final int NULL = GenerationalHeap.NULL;
    private static final int INVALID = GenerationalHeap.INVALID;
    private static final int FULL = GenerationalHeap.FULL;
    private static final int NONE = GenerationalHeap.NONE;
    private static final Due due = new Due("TextTest");

    public static void main(String[] args) {
        descriptions();
        longDescription();
        describeRefuses();
        outputBytes();
        appendAndClear();
        appendRefuses();
        errorCounts();
        due.end();
    }

    private static void described(GenerationalHeap heap, int object, String want) {
        due.is("describe(" + object + ")", heap.describe(object), want.length());
        due.is("output of " + object, Calls.output(heap), want);
    }

    private static void descriptions() {
        GenerationalHeap heap = new GenerationalHeap();
        for (int k = 0; k < 8; k++) {
            heap.allocate(k == 7 ? 2 : k == 1 ? 1 : 0);
        }
        heap.write(7, 0, 3);
        heap.write(1, 0, 1);
        heap.setRoot(0, 7);
        heap.setRoot(1, 1);
        described(heap, 0, "#0 young age=0 []");
        described(heap, 7, "#7 young age=0 [3,-]");
        heap.minorCollection();
        described(heap, 7, "#7 young age=1 [3,-]");
        described(heap, 1, "#1 young age=1 [1]");
        heap.minorCollection();
        described(heap, 7, "#7 old age=2 [3,-]");
        described(heap, 3, "#3 old age=2 []");
        heap.write(7, 1, NULL);
        heap.write(7, 0, NULL);
        described(heap, 7, "#7 old age=2 [-,-]");
    }

    /** Three-digit ages come from survivors that find no room, minor by minor. */
    private static void longDescription() {
        GenerationalHeap heap = new GenerationalHeap();
        heap.reset(64, 16, 1);
        for (int k = 0; k < 96; k++) {
            heap.allocate(0);
            if (k == 50) {
                heap.minorCollection();
            }
        }
        heap.minorCollection();
        for (int root = 0; root < 4; root++) {
            heap.setRoot(root, heap.allocate(4));
            for (int field = 0; field < 4; field++) {
                heap.write(96 + root, field, 96 + field % (root + 1));
            }
        }
        due.is("runScript()", Calls.run(heap, "minor;minor;minor;minor;minor;"), 5);
        for (int k = 0; k < 19; k++) {
            heap.runScript();
        }
        due.is("promotionFailures()", heap.promotionFailures(), 100);
        described(heap, 99, "#99 young age=100 [96,97,98,99]");
        described(heap, 98, "#98 old age=1 [96,97,98,96]");
    }

    private static void describeRefuses() {
        GenerationalHeap heap = new GenerationalHeap();
        heap.allocate(0);
        heap.describe(0);
        heap.minorCollection();
        int[] wrong = {0, 1, 99, 100, -1, -2, Integer.MAX_VALUE, Integer.MIN_VALUE};
        for (int object : wrong) {
            due.is("describe(" + object + ")", heap.describe(object), INVALID);
        }
        due.is("the output stays", Calls.output(heap), "#0 young age=0 []");
        due.is("errors", Calls.errors(heap), "8 0 0");
    }

    private static void outputBytes() {
        GenerationalHeap heap = new GenerationalHeap();
        due.is("outputByte(0) of nothing", heap.outputByte(0), NONE);
        heap.allocate(0);
        heap.describe(0);
        due.is("outputByte(0)", heap.outputByte(0), '#');
        due.is("outputByte(16)", heap.outputByte(16), ']');
        due.is("outputByte(17)", heap.outputByte(17), NONE);
        due.is("outputByte(max)", heap.outputByte(Integer.MAX_VALUE), NONE);
        due.is("NONE isn't counted", Calls.errors(heap), "0 0 0");
        due.is("outputByte(-1)", heap.outputByte(-1), INVALID);
        due.is("outputByte(min)", heap.outputByte(Integer.MIN_VALUE), INVALID);
        due.is("errors", Calls.errors(heap), "2 0 0");
    }

    private static void appendAndClear() {
        GenerationalHeap heap = new GenerationalHeap();
        due.is("clearText() of nothing", heap.clearText(), 0);
        for (int k = 1; k <= 150; k++) {
            due.is("append number " + k, heap.append(k % 128), k);
        }
        due.is("append number 151", heap.append(59), FULL);
        due.is("append(128) when full", heap.append(128), INVALID);
        due.is("errors", Calls.errors(heap), "1 0 1");
        due.is("clearText()", heap.clearText(), 150);
        due.is("append to an empty text", heap.append(0), 1);
        due.is("clearText()", heap.clearText(), 1);
        due.is("clearText() again", heap.clearText(), 0);
    }

    private static void appendRefuses() {
        GenerationalHeap heap = new GenerationalHeap();
        int[] wrong = {-1, 128, 256, Integer.MAX_VALUE, Integer.MIN_VALUE};
        for (int value : wrong) {
            due.is("append(" + value + ")", heap.append(value), INVALID);
        }
        due.is("append(0)", heap.append(0), 1);
        due.is("append(127)", heap.append(127), 2);
        due.is("errors", Calls.errors(heap), "5 0 0");
    }

    private static void errorCounts() {
        GenerationalHeap heap = new GenerationalHeap();
        heap.allocate(-1);
        heap.stepMajor(1);
        heap.startMajor();
        heap.startMajor();
        for (int k = 0; k < 27; k++) {
            heap.allocate(0);
        }
        due.is("errors", Calls.errors(heap), "1 2 3");
        due.is("errorCount(3)", heap.errorCount(3), INVALID);
        due.is("errorCount(-1)", heap.errorCount(-1), INVALID);
        due.is("errorCount(-2)", heap.errorCount(-2), INVALID);
        due.is("errorCount(max)", heap.errorCount(Integer.MAX_VALUE), INVALID);
        due.is("errorCount(min)", heap.errorCount(Integer.MIN_VALUE), INVALID);
        due.is("which is counted, too", Calls.errors(heap), "6 2 3");
    }
}
