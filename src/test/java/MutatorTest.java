/** Promises 1 to 5: a new object, reset, allocate, write, setRoot. */
public final class MutatorTest {
    private static final int NULL = GenerationalHeap.NULL;
    private static final int INVALID = GenerationalHeap.INVALID;
    private static final int REJECTED = GenerationalHeap.REJECTED;
    private static final int FULL = GenerationalHeap.FULL;
    private static final Due due = new Due("MutatorTest");

    public static void main(String[] args) {
        newObject();
        resetEmptiesTheHeap();
        resetKeepsErrorsAndBuffers();
        resetRefusesWrongArguments();
        allocateNumbersObjects();
        allocateKeepsToTheNursery();
        allocateStopsAtAHundred();
        writeAnswersThePreviousReference();
        writeRemembers();
        writeShades();
        writeRefuses();
        setRootStores();
        setRootShadesAndRefuses();
        due.end();
    }

    private static void newObject() {
        GenerationalHeap heap = new GenerationalHeap();
        for (int index = 0; index < 4; index++) {
            due.is("root(" + index + ")", heap.root(index), NULL);
        }
        due.is("phase()", heap.phase(), GenerationalHeap.IDLE);
        due.is("counters", heap.youngCount() + heap.oldCount() + heap.rememberedCount()
            + heap.greyCount() + heap.promotionFailures() + heap.majorCount()
            + heap.youngWords() + heap.oldWords() + heap.reachableCount(), 0);
        due.is("errors", Calls.errors(heap), "0 0 0");
        due.is("clearText()", heap.clearText(), 0);
        due.is("outputByte(0)", heap.outputByte(0), GenerationalHeap.NONE);
        due.is("exists(0)", heap.exists(0), 0);

        // The capacities and the threshold show by what they allow.
        for (int id = 0; id < 4; id++) {
            due.is("allocate(4)", heap.allocate(4), id);
            heap.setRoot(id, id);
        }
        due.is("allocate(4), 4 words free", heap.allocate(4), FULL);
        due.is("allocate(3), 4 words free", heap.allocate(3), 4);
        heap.minorCollection();
        due.is("oldCount() at age 1", heap.oldCount(), 0);
        heap.minorCollection();
        due.is("oldCount() at age 2", heap.oldCount(), 4);
        fillOld();
    }

    private static void fillOld() {
        GenerationalHeap heap = new GenerationalHeap();
        int chain = NULL;
        for (int k = 0; k < 12; k++) {
            int id = heap.allocate(4);
            heap.write(id, 0, chain);
            heap.setRoot(0, id);
            heap.minorCollection();
            heap.minorCollection();
            chain = id;
        }
        due.is("oldWords() of twelve objects", heap.oldWords(), 60);
        due.is("promotionFailures() until full", heap.promotionFailures(), 0);
        heap.setRoot(1, heap.allocate(0));
        heap.minorCollection();
        heap.minorCollection();
        due.is("oldWords() when full", heap.oldWords(), 60);
        due.is("promotionFailures() when full", heap.promotionFailures(), 1);
    }

    private static void resetEmptiesTheHeap() {
        GenerationalHeap heap = new GenerationalHeap();
        heap.reset(8, 16, 1);
        for (int id = 0; id < 4; id++) {
            heap.allocate(4);
            heap.setRoot(id, id);
            heap.minorCollection();
        }
        due.is("promotionFailures()", heap.promotionFailures(), 1);
        heap.startMajor();
        heap.stepMajor(200);
        int young = heap.allocate(0);
        heap.write(0, 0, young);
        heap.startMajor();
        due.is("greyCount()", heap.greyCount(), 3);
        due.is("reset answers the objects that existed", heap.reset(64, 128, 5), 5);
        due.is("reset again", heap.reset(64, 128, 5), 0);
        for (int id = 0; id < 5; id++) {
            due.is("exists(" + id + ")", heap.exists(id), 0);
        }
        for (int index = 0; index < 4; index++) {
            due.is("root(" + index + ")", heap.root(index), NULL);
        }
        due.is("everything 0", heap.youngCount() + heap.oldCount() + heap.rememberedCount()
            + heap.greyCount() + heap.promotionFailures() + heap.majorCount() + heap.youngWords()
            + heap.oldWords() + heap.phase(), 0);
        due.is("a digest that knows no minor collection", heap.digest(), freshDigest());
        due.is("ids start again", heap.allocate(4), 0);
        due.is("age(0)", heap.age(0), 0);
        due.is("reference(0, 0)", heap.reference(0, 0), NULL);
        due.is("describe(0)", heap.describe(0), "#0 young age=0 [-,-,-,-]".length());
        due.is("startMajor() after a reset", heap.startMajor(), 0);
    }

    private static long freshDigest() {
        GenerationalHeap heap = new GenerationalHeap();
        heap.reset(8, 16, 1);
        return heap.digest();
    }

    private static void resetKeepsErrorsAndBuffers() {
        GenerationalHeap heap = new GenerationalHeap();
        heap.allocate(1);
        heap.describe(0);
        Calls.type(heap, "minor;");
        heap.allocate(5);
        heap.stepMajor(1);
        heap.reset(8, 16, 1);
        due.is("errors after reset", Calls.errors(heap), "1 1 0");
        due.is("output after reset", Calls.output(heap), "#0 young age=0 [-]");
        due.is("clearText() after reset", heap.clearText(), 6);
    }

    private static void resetRefusesWrongArguments() {
        int[][] wrong = {{7, 16, 1}, {65, 16, 1}, {8, 15, 1}, {8, 129, 1}, {8, 16, 0}, {8, 16, 6},
            {Integer.MIN_VALUE, 60, 2}, {24, Integer.MAX_VALUE, 2}, {24, 60, -1}};
        GenerationalHeap heap = new GenerationalHeap();
        heap.allocate(4);
        for (int[] row : wrong) {
            due.is("reset(" + row[0] + ", " + row[1] + ", " + row[2] + ")",
                heap.reset(row[0], row[1], row[2]), INVALID);
        }
        due.is("errors", Calls.errors(heap), wrong.length + " 0 0");
        due.is("exists(0) after refused resets", heap.exists(0), 1);
        due.is("capacity after refused resets", heap.allocate(4) + heap.allocate(4), 3);
        due.is("reset(8, 16, 1)", heap.reset(8, 16, 1), 3);
        due.is("allocate(4) in 8 words", heap.allocate(4), 0);
        due.is("allocate(3) in 3 words", heap.allocate(3), FULL);
        due.is("allocate(2) in 3 words", heap.allocate(2), 1);
        due.is("reset(64, 128, 5)", heap.reset(64, 128, 5), 2);
        due.is("reset(9, 17, 3)", heap.reset(9, 17, 3), 0);
    }

    private static void allocateNumbersObjects() {
        GenerationalHeap heap = new GenerationalHeap();
        for (int fields = 0; fields <= 4; fields++) {
            due.is("allocate(" + fields + ")", heap.allocate(fields), fields);
            due.is("youngObject", heap.youngObject(fields), fields);
            due.is("age", heap.age(fields), 0);
            due.is("isOld", heap.isOld(fields), 0);
            for (int field = 0; field < fields; field++) {
                due.is("reference", heap.reference(fields, field), NULL);
            }
            due.is("reference behind the last", heap.reference(fields, fields), INVALID);
        }
        due.is("youngWords()", heap.youngWords(), 15);
        due.is("allocate(-1)", heap.allocate(-1), INVALID);
        due.is("allocate(5)", heap.allocate(5), INVALID);
        due.is("allocate(max)", heap.allocate(Integer.MAX_VALUE), INVALID);
        due.is("allocate(min)", heap.allocate(Integer.MIN_VALUE), INVALID);
        due.is("errors", Calls.errors(heap), "9 0 0");
        heap.minorCollection();
        due.is("an id is never used again", heap.allocate(0), 5);
    }

    private static void allocateKeepsToTheNursery() {
        GenerationalHeap heap = new GenerationalHeap();
        heap.reset(10, 16, 5);
        heap.allocate(4);
        due.is("allocate that fills it", heap.allocate(4), 1);
        due.is("allocate(0) when full", heap.allocate(0), FULL);
        due.is("allocate(5) when full", heap.allocate(5), INVALID);
        due.is("errors", Calls.errors(heap), "1 0 1");
        due.is("youngCount()", heap.youngCount(), 2);
        heap.minorCollection();
        due.is("allocate after a collection", heap.allocate(0), 2);
    }

    private static void allocateStopsAtAHundred() {
        GenerationalHeap heap = new GenerationalHeap();
        heap.reset(64, 128, 1);
        for (int id = 0; id < 100; id++) {
            due.is("allocate number " + id, heap.allocate(0), id);
            if (id == 50) {
                heap.minorCollection();
            }
        }
        due.is("exists(99)", heap.exists(99), 1);
        due.is("allocate number 100", heap.allocate(0), FULL);
        heap.minorCollection();
        due.is("allocate in an empty nursery", heap.allocate(0), FULL);
        due.is("exists(100)", heap.exists(100), 0);
        due.is("errors", Calls.errors(heap), "0 0 2");
        heap.reset(8, 16, 1);
        due.is("allocate after reset", heap.allocate(0), 0);
    }

    private static void writeAnswersThePreviousReference() {
        GenerationalHeap heap = new GenerationalHeap();
        heap.allocate(2);
        heap.allocate(0);
        due.is("write(0, 0, 1)", heap.write(0, 0, 1), NULL);
        due.is("write(0, 1, 0)", heap.write(0, 1, 0), NULL);
        due.is("write(0, 0, 0)", heap.write(0, 0, 0), 1);
        due.is("write(0, 0, -1)", heap.write(0, 0, NULL), 0);
        due.is("reference(0, 0)", heap.reference(0, 0), NULL);
        due.is("reference(0, 1)", heap.reference(0, 1), 0);
        due.is("young objects are not remembered", heap.rememberedCount(), 0);
        due.is("errors", Calls.errors(heap), "0 0 0");
    }

    private static void writeRemembers() {
        GenerationalHeap heap = Calls.withOld(2, 1, 0);
        heap.allocate(1);
        due.is("old to old", heap.write(0, 0, 2), NULL);
        due.is("young to old", heap.write(3, 0, 0), NULL);
        due.is("young to young", heap.write(3, 0, 3), 0);
        due.is("old to NULL", heap.write(0, 0, NULL), 2);
        due.is("none remembered", heap.rememberedCount(), 0);
        heap.write(1, 0, 3);
        heap.write(0, 1, 3);
        heap.write(0, 0, 3);
        heap.write(1, 0, 3);
        due.is("remembered in the order of the first store", Calls.remembered(heap), "1 0");
        heap.write(1, 0, NULL);
        heap.write(0, 0, 2);
        heap.write(0, 1, 2);
        due.is("other stores remove nothing", Calls.remembered(heap), "1 0");
        heap.write(1, 0, 3);
        due.is("nor move anything", Calls.remembered(heap), "1 0");
    }

    private static void writeShades() {
        GenerationalHeap heap = Calls.withOld(1, 1, 0);
        heap.allocate(1);
        heap.write(0, 0, 1);
        due.is("startMajor()", heap.startMajor(), 0);
        due.is("stored before the cycle", heap.colour(1), GenerationalHeap.WHITE);
        heap.write(3, 0, 2);
        due.is("stored into a young object", heap.colour(2), GenerationalHeap.GREY);
        heap.write(0, 0, 1);
        due.is("stored into a white object", heap.colour(1), GenerationalHeap.GREY);
        due.is("greyCount()", heap.greyCount(), 2);
        heap.write(0, 0, 1);
        heap.write(0, 0, 3);
        heap.write(0, 0, NULL);
        due.is("grey, young and NULL aren't shaded", heap.greyCount(), 2);
        heap.stepMajor(1);
        due.is("the queue's first was stored first", heap.colour(2), GenerationalHeap.BLACK);
        heap.write(0, 0, 2);
        due.is("black stays black", heap.colour(2), GenerationalHeap.BLACK);
        due.is("greyCount() at the end", heap.greyCount(), 1);
    }

    private static void writeRefuses() {
        GenerationalHeap heap = Calls.withOld(1, 1);
        heap.allocate(2);
        heap.allocate(0);
        heap.setRoot(0, 0);
        heap.write(2, 0, 3);
        int[][] wrong = {{-1, 0, 0}, {4, 0, 0}, {100, 0, 0}, {Integer.MAX_VALUE, 0, 0},
            {Integer.MIN_VALUE, 0, 0}, {2, -1, 0}, {2, 2, 0}, {3, 0, 0}, {2, 4, 0},
            {2, Integer.MAX_VALUE, 0}, {2, Integer.MIN_VALUE, 0}, {2, 0, -2}, {2, 0, 4},
            {2, 0, 100}, {2, 0, Integer.MAX_VALUE}, {2, 0, Integer.MIN_VALUE}};
        for (int[] row : wrong) {
            due.is("write(" + row[0] + ", " + row[1] + ", " + row[2] + ")",
                heap.write(row[0], row[1], row[2]), INVALID);
        }
        due.is("reference(2, 0)", heap.reference(2, 0), 3);
        due.is("errors", Calls.errors(heap), wrong.length + " 0 0");
        heap.startMajor();
        heap.stepMajor(2);
        due.is("phase()", heap.phase(), GenerationalHeap.SWEEPING);
        due.is("a white target", heap.write(2, 0, 1), REJECTED);
        due.is("a white target that's wrong otherwise", heap.write(2, 2, 1), INVALID);
        due.is("a black target", heap.write(2, 0, 0), 3);
        due.is("a young target", heap.write(2, 1, 3), NULL);
        due.is("NULL", heap.write(2, 1, NULL), 3);
        due.is("into a white object", heap.write(1, 0, 3), NULL);
        due.is("which is remembered", Calls.remembered(heap), "1");
        due.is("errors", Calls.errors(heap), wrong.length + 1 + " 1 0");
        heap.stepMajor(200);
        due.is("a freed target", heap.write(2, 0, 1), INVALID);
        due.is("a freed object", heap.write(1, 0, 0), INVALID);
    }

    private static void setRootStores() {
        GenerationalHeap heap = new GenerationalHeap();
        heap.allocate(0);
        heap.allocate(0);
        for (int index = 0; index < 4; index++) {
            due.is("setRoot(" + index + ", 1)", heap.setRoot(index, 1), NULL);
            due.is("root(" + index + ")", heap.root(index), 1);
        }
        due.is("setRoot(2, 0)", heap.setRoot(2, 0), 1);
        due.is("setRoot(2, -1)", heap.setRoot(2, NULL), 0);
        due.is("root(2)", heap.root(2), NULL);
        due.is("root(3)", heap.root(3), 1);
        int[][] wrong = {{-1, 0}, {4, 0}, {Integer.MAX_VALUE, 0}, {Integer.MIN_VALUE, NULL},
            {0, -2}, {0, 2}, {0, 100}, {0, Integer.MAX_VALUE}, {0, Integer.MIN_VALUE}};
        for (int[] row : wrong) {
            due.is("setRoot(" + row[0] + ", " + row[1] + ")", heap.setRoot(row[0], row[1]), INVALID);
        }
        due.is("root(0)", heap.root(0), 1);
        due.is("errors", Calls.errors(heap), wrong.length + " 0 0");
    }

    private static void setRootShadesAndRefuses() {
        GenerationalHeap heap = Calls.withOld(0, 0, 0);
        heap.startMajor();
        heap.setRoot(1, 2);
        heap.setRoot(2, 0);
        heap.setRoot(1, NULL);
        heap.setRoot(2, NULL);
        due.is("both shaded", heap.greyCount(), 2);
        due.is("colour(1)", heap.colour(1), GenerationalHeap.WHITE);
        heap.stepMajor(3);
        due.is("phase()", heap.phase(), GenerationalHeap.SWEEPING);
        due.is("a white target", heap.setRoot(0, 1), REJECTED);
        due.is("a wrong index and a white target", heap.setRoot(4, 1), INVALID);
        due.is("root(0)", heap.root(0), NULL);
        due.is("a black target", heap.setRoot(0, 2), NULL);
        due.is("errors", Calls.errors(heap), "1 1 0");
    }
}
