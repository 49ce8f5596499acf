/** Promises 9 to 22 and 25: what can be asked of objects and generations. */
public final class QueryTest {
    private static final int NULL = GenerationalHeap.NULL;
    private static final int INVALID = GenerationalHeap.INVALID;
    private static final int NONE = GenerationalHeap.NONE;
    private static final int MAX = Integer.MAX_VALUE;
    private static final int MIN = Integer.MIN_VALUE;
    private static final Due due = new Due("QueryTest");

    public static void main(String[] args) {
        existsForAnyNumber();
        isOldAndAge();
        references();
        roots();
        reachable();
        nurseryAndRememberedSet();
        sizes();
        due.end();
    }

    private static void existsForAnyNumber() {
        GenerationalHeap heap = new GenerationalHeap();
        heap.allocate(0);
        int[] none = {1, 99, 100, -1, -2, MAX, MIN};
        for (int object : none) {
            due.is("exists(" + object + ")", heap.exists(object), 0);
        }
        due.is("exists(0)", heap.exists(0), 1);
        heap.minorCollection();
        due.is("exists(0) when freed", heap.exists(0), 0);
        due.is("errors", Calls.errors(heap), "0 0 0");
    }

    private static void isOldAndAge() {
        GenerationalHeap heap = Calls.withOld(0);
        heap.allocate(0);
        due.is("isOld(0)", heap.isOld(0), 1);
        due.is("isOld(1)", heap.isOld(1), 0);
        due.is("age(0)", heap.age(0), 1);
        due.is("age(1)", heap.age(1), 0);
        int[] none = {2, 99, 100, -1, -2, MAX, MIN};
        for (int object : none) {
            due.is("isOld(" + object + ")", heap.isOld(object), INVALID);
            due.is("age(" + object + ")", heap.age(object), INVALID);
        }
        heap.minorCollection();
        due.is("isOld(1) when freed", heap.isOld(1), INVALID);
        due.is("age(1) when freed", heap.age(1), INVALID);
        due.is("age(0) as old", heap.age(0), 1);
        due.is("errors", Calls.errors(heap), "16 0 0");
    }

    private static void references() {
        GenerationalHeap heap = new GenerationalHeap();
        heap.allocate(4);
        heap.allocate(0);
        heap.write(0, 3, 1);
        heap.write(0, 1, 0);
        int[] held = {NULL, 0, NULL, 1};
        for (int field = 0; field < 4; field++) {
            due.is("reference(0, " + field + ")", heap.reference(0, field), held[field]);
        }
        int[][] wrong = {{0, 4}, {0, -1}, {0, MAX}, {0, MIN}, {1, 0}, {1, -1}, {2, 0}, {-1, 0},
            {100, 0}, {MAX, MAX}, {MIN, 0}};
        for (int[] row : wrong) {
            due.is("reference(" + row[0] + ", " + row[1] + ")",
                heap.reference(row[0], row[1]), INVALID);
        }
        heap.minorCollection();
        due.is("reference(0, 0) when freed", heap.reference(0, 0), INVALID);
        due.is("errors", Calls.errors(heap), "12 0 0");
    }

    private static void roots() {
        GenerationalHeap heap = new GenerationalHeap();
        heap.setRoot(2, heap.allocate(0));
        int[] held = {NULL, NULL, 0, NULL};
        for (int index = 0; index < 4; index++) {
            due.is("root(" + index + ")", heap.root(index), held[index]);
        }
        int[] wrong = {-1, 4, MAX, MIN};
        for (int index : wrong) {
            due.is("root(" + index + ")", heap.root(index), INVALID);
        }
        due.is("errors", Calls.errors(heap), "4 0 0");
    }

    private static void reachable() {
        GenerationalHeap heap = Calls.withOld(2, 1);
        due.is("reachableCount() without roots", heap.reachableCount(), 0);
        heap.allocate(2);
        heap.allocate(1);
        heap.allocate(0);
        heap.setRoot(1, 0);
        due.is("an old one", heap.reachableCount(), 1);
        heap.write(0, 0, 2);
        heap.write(2, 0, 1);
        heap.write(2, 1, 0);
        heap.write(1, 0, 1);
        due.is("young and old, with cycles", heap.reachableCount(), 3);
        heap.setRoot(0, 2);
        heap.setRoot(3, 2);
        due.is("each but once", heap.reachableCount(), 3);
        heap.write(3, 0, 4);
        due.is("not from what isn't reachable", heap.reachableCount(), 3);
        heap.setRoot(2, 3);
        due.is("from all roots", heap.reachableCount(), 5);
        heap.write(0, 0, NULL);
        heap.setRoot(0, NULL);
        heap.setRoot(3, NULL);
        due.is("counted anew each time", heap.reachableCount(), 3);

        GenerationalHeap chain = new GenerationalHeap();
        chain.reset(64, 128, 1);
        for (int k = 0; k < 64; k++) {
            int id = chain.allocate(1);
            chain.write(id, 0, k - 1);
            chain.setRoot(0, id);
            chain.minorCollection();
        }
        due.is("a long chain", chain.reachableCount(), 64);
        due.is("an old generation that is full", chain.oldWords(), 128);
    }

    private static void nurseryAndRememberedSet() {
        GenerationalHeap heap = Calls.withOld(1, 1);
        due.is("youngObject(0) of none", heap.youngObject(0), NONE);
        due.is("remembered(0) of none", heap.remembered(0), NONE);
        heap.allocate(0);
        heap.allocate(0);
        heap.write(1, 0, 3);
        heap.write(0, 0, 3);
        due.is("youngCount()", heap.youngCount(), 2);
        due.is("youngObject(0)", heap.youngObject(0), 2);
        due.is("youngObject(1)", heap.youngObject(1), 3);
        due.is("rememberedCount()", heap.rememberedCount(), 2);
        due.is("remembered(0)", heap.remembered(0), 1);
        due.is("remembered(1)", heap.remembered(1), 0);
        int[] beyond = {2, 99, 100, MAX};
        for (int index : beyond) {
            due.is("youngObject(" + index + ")", heap.youngObject(index), NONE);
            due.is("remembered(" + index + ")", heap.remembered(index), NONE);
        }
        due.is("NONE isn't counted", Calls.errors(heap), "0 0 0");
        int[] negative = {-1, -2, MIN};
        for (int index : negative) {
            due.is("youngObject(" + index + ")", heap.youngObject(index), INVALID);
            due.is("remembered(" + index + ")", heap.remembered(index), INVALID);
        }
        due.is("errors", Calls.errors(heap), "6 0 0");
    }

    private static void sizes() {
        GenerationalHeap heap = new GenerationalHeap();
        heap.reset(64, 16, 1);
        for (int fields = 0; fields <= 4; fields++) {
            heap.allocate(fields);
        }
        heap.setRoot(0, 4);
        heap.setRoot(1, 3);
        heap.setRoot(2, 2);
        due.is("youngWords()", heap.youngWords(), 15);
        due.is("oldWords()", heap.oldWords(), 0);
        due.is("freed", heap.minorCollection(), 2);
        due.is("youngWords()", heap.youngWords(), 0);
        due.is("oldWords()", heap.oldWords(), 12);
        due.is("oldCount()", heap.oldCount(), 3);
        heap.setRoot(3, heap.allocate(4));
        heap.minorCollection();
        due.is("promotionFailures()", heap.promotionFailures(), 1);
        due.is("youngWords()", heap.youngWords(), 5);
        due.is("oldCount()", heap.oldCount(), 3);
        heap.setRoot(1, NULL);
        heap.startMajor();
        heap.stepMajor(200);
        due.is("oldCount() behind the sweep", heap.oldCount(), 2);
        due.is("oldWords() behind the sweep", heap.oldWords(), 8);
    }
}
