/** Promises 7, 8, 14, 23, 24 and 26: the major collection in steps. */
public final class MajorTest {
    private static final int NULL = GenerationalHeap.NULL;
    private static final int INVALID = GenerationalHeap.INVALID;
    private static final int REJECTED = GenerationalHeap.REJECTED;
    private static final int IDLE = GenerationalHeap.IDLE;
    private static final int MARKING = GenerationalHeap.MARKING;
    private static final int SWEEPING = GenerationalHeap.SWEEPING;
    private static final int WHITE = GenerationalHeap.WHITE;
    private static final int GREY = GenerationalHeap.GREY;
    private static final int BLACK = GenerationalHeap.BLACK;
    private static final Due due = new Due("MajorTest");

    public static void main(String[] args) {
        emptyCycle();
        startAndStepAreRefused();
        rootScanShadesRootsAndYoungFields();
        markingFollowsTheQueue();
        markingScansTheRootsAgain();
        sweepGoesByRisingId();
        sweptObjectsAreForgotten();
        fieldsMayHoldFreedIds();
        aSecondCycleStartsWhite();
        colourIsRefused();
        budgetIsCutAtTheEnd();
        due.end();
    }

    private static void emptyCycle() {
        GenerationalHeap heap = new GenerationalHeap();
        due.is("phase()", heap.phase(), IDLE);
        due.is("startMajor()", heap.startMajor(), 0);
        due.is("phase()", heap.phase(), MARKING);
        due.is("stepMajor(1)", heap.stepMajor(1), 0);
        due.is("phase()", heap.phase(), SWEEPING);
        due.is("majorCount()", heap.majorCount(), 0);
        due.is("stepMajor(1)", heap.stepMajor(1), 0);
        due.is("phase()", heap.phase(), IDLE);
        due.is("majorCount()", heap.majorCount(), 1);
    }

    private static void startAndStepAreRefused() {
        GenerationalHeap heap = new GenerationalHeap();
        due.is("stepMajor(1) when idle", heap.stepMajor(1), REJECTED);
        due.is("stepMajor(200) when idle", heap.stepMajor(200), REJECTED);
        int[] wrong = {0, -1, 201, Integer.MAX_VALUE, Integer.MIN_VALUE};
        for (int budget : wrong) {
            due.is("stepMajor(" + budget + ") when idle", heap.stepMajor(budget), INVALID);
        }
        heap.startMajor();
        due.is("startMajor() when marking", heap.startMajor(), REJECTED);
        for (int budget : wrong) {
            due.is("stepMajor(" + budget + ") when marking", heap.stepMajor(budget), INVALID);
        }
        due.is("phase()", heap.phase(), MARKING);
        heap.stepMajor(1);
        due.is("startMajor() when sweeping", heap.startMajor(), REJECTED);
        due.is("errors", Calls.errors(heap), "10 4 0");
    }

    private static void rootScanShadesRootsAndYoungFields() {
        GenerationalHeap heap = Calls.withOld(0, 0, 0, 0, 0, 0);
        heap.allocate(2);
        heap.allocate(1);
        heap.write(7, 0, 3);
        heap.write(6, 1, 2);
        heap.write(6, 0, 4);
        heap.setRoot(1, 5);
        heap.setRoot(3, 4);
        heap.setRoot(2, 6);
        due.is("startMajor()", heap.startMajor(), 4);
        due.is("colour(0)", heap.colour(0), WHITE);
        due.is("colour(1)", heap.colour(1), WHITE);
        int[] order = {5, 4, 2, 3};
        for (int id : order) {
            due.is("grey before its turn: " + id, heap.colour(id), GREY);
            heap.stepMajor(1);
            due.is("black in its turn: " + id, heap.colour(id), BLACK);
        }
        due.is("greyCount()", heap.greyCount(), 0);
        due.is("stepMajor(200)", heap.stepMajor(200), 2);
        due.is("oldCount()", heap.oldCount(), 4);
    }

    private static void markingFollowsTheQueue() {
        GenerationalHeap heap = Calls.withOld(2, 1, 1, 0, 0);
        heap.setRoot(0, 0);
        heap.write(0, 0, 2);
        heap.write(0, 1, 1);
        heap.write(2, 0, 3);
        heap.write(1, 0, 0);
        due.is("startMajor()", heap.startMajor(), 1);
        int[] order = {0, 2, 1, 3};
        int[] greys = {2, 2, 1, 0};
        for (int k = 0; k < order.length; k++) {
            heap.stepMajor(1);
            due.is("colour(" + order[k] + ")", heap.colour(order[k]), BLACK);
            due.is("greyCount() behind " + order[k], heap.greyCount(), greys[k]);
        }
        due.is("phase() with an empty queue", heap.phase(), MARKING);
        heap.stepMajor(1);
        due.is("phase() behind the scan", heap.phase(), SWEEPING);
        due.is("colour(4)", heap.colour(4), WHITE);
    }

    private static void markingScansTheRootsAgain() {
        GenerationalHeap heap = Calls.withOld(1, 0);
        heap.setRoot(0, 0);
        heap.write(0, 0, 1);
        heap.allocate(1);
        heap.startMajor();
        heap.stepMajor(1);
        due.is("greyCount()", heap.greyCount(), 1);
        heap.stepMajor(1);
        due.is("phase()", heap.phase(), MARKING);

        // A survivor that fails to be promoted never loses what it refers to.
        GenerationalHeap other = new GenerationalHeap();
        other.reset(64, 128, 1);
        other.setRoot(0, other.allocate(1));
        other.minorCollection();
        other.startMajor();
        other.stepMajor(1);
        other.setRoot(1, other.allocate(1));
        other.minorCollection();
        due.is("promoted while marking", other.greyCount(), 1);
        other.stepMajor(1);
        other.stepMajor(1);
        due.is("phase() behind the scan", other.phase(), SWEEPING);
        due.is("a unit each", other.stepMajor(2), 0);
        due.is("phase() with an empty sweep list", other.phase(), SWEEPING);
        other.stepMajor(1);
        due.is("phase()", other.phase(), IDLE);
    }

    private static void sweepGoesByRisingId() {
        GenerationalHeap heap = new GenerationalHeap();
        heap.reset(64, 128, 1);
        for (int k = 0; k < 4; k++) {
            heap.allocate(k);
        }
        // Promoted against the order of their ids.
        for (int k = 3; k >= 0; k--) {
            heap.setRoot(3 - k, k);
        }
        heap.minorCollection();
        heap.setRoot(0, NULL);
        heap.setRoot(2, NULL);
        heap.setRoot(3, NULL);
        heap.startMajor();
        heap.stepMajor(2);
        due.is("phase()", heap.phase(), SWEEPING);
        due.is("oldWords()", heap.oldWords(), 10);
        due.is("unit 0 frees", heap.stepMajor(1), 1);
        due.is("exists(0)", heap.exists(0), 0);
        due.is("exists(3)", heap.exists(3), 1);
        due.is("unit 1 frees", heap.stepMajor(1), 1);
        due.is("unit 2 keeps", heap.stepMajor(1), 0);
        due.is("oldWords()", heap.oldWords(), 7);
        due.is("oldCount()", heap.oldCount(), 2);
        due.is("unit 3 frees", heap.stepMajor(1), 1);
        due.is("exists(2)", heap.exists(2), 1);
        due.is("colour(2)", heap.colour(2), BLACK);
        due.is("phase()", heap.phase(), SWEEPING);
        heap.stepMajor(1);
        due.is("majorCount()", heap.majorCount(), 1);
        due.is("oldWords()", heap.oldWords(), 3);
    }

    private static void sweptObjectsAreForgotten() {
        GenerationalHeap heap = Calls.withOld(1, 1);
        heap.setRoot(0, 1);
        heap.allocate(0);
        heap.write(0, 0, 2);
        heap.write(1, 0, 2);
        heap.startMajor();
        due.is("remembered", Calls.remembered(heap), "0 1");
        due.is("stepMajor(200)", heap.stepMajor(200), 1);
        due.is("remembered", Calls.remembered(heap), "1");
        due.is("exists(2)", heap.exists(2), 1);
    }

    private static void fieldsMayHoldFreedIds() {
        GenerationalHeap heap = Calls.withOld(0, 2);
        heap.write(1, 0, 0);
        heap.startMajor();
        heap.stepMajor(2);
        due.is("exists(0)", heap.exists(0), 0);
        due.is("reference(1, 0)", heap.reference(1, 0), 0);
        due.is("describe(1)", heap.describe(1), 18);
        due.is("output", Calls.output(heap), "#1 old age=1 [0,-]");
        heap.allocate(0);
        heap.write(1, 1, 2);
        due.is("minorCollection()", heap.minorCollection(), 0);
        due.is("isOld(2)", heap.isOld(2), 1);
        due.is("colour(2)", heap.colour(2), BLACK);
        due.is("rememberedCount()", heap.rememberedCount(), 0);
        due.is("write over the freed id", heap.write(1, 0, NULL), 0);
        due.is("stepMajor(1)", heap.stepMajor(1), 1);
        due.is("exists(1)", heap.exists(1), 0);
        due.is("oldCount()", heap.oldCount(), 1);
    }

    private static void aSecondCycleStartsWhite() {
        GenerationalHeap heap = Calls.withOld(0, 0);
        heap.setRoot(0, 0);
        heap.setRoot(1, 1);
        heap.startMajor();
        heap.stepMajor(200);
        due.is("both kept", heap.oldCount(), 2);
        heap.setRoot(0, NULL);
        due.is("startMajor()", heap.startMajor(), 1);
        due.is("colour(0)", heap.colour(0), WHITE);
        due.is("colour(1)", heap.colour(1), GREY);
        due.is("stepMajor(200)", heap.stepMajor(200), 1);
        due.is("majorCount()", heap.majorCount(), 2);
    }

    private static void colourIsRefused() {
        GenerationalHeap heap = Calls.withOld(0);
        heap.allocate(0);
        due.is("old when idle", heap.colour(0), REJECTED);
        due.is("young when idle", heap.colour(1), REJECTED);
        due.is("none when idle", heap.colour(2), INVALID);
        heap.startMajor();
        due.is("old", heap.colour(0), WHITE);
        due.is("young", heap.colour(1), REJECTED);
        due.is("none", heap.colour(2), INVALID);
        due.is("NULL", heap.colour(NULL), INVALID);
        due.is("colour(100)", heap.colour(100), INVALID);
        due.is("colour(max)", heap.colour(Integer.MAX_VALUE), INVALID);
        due.is("colour(min)", heap.colour(Integer.MIN_VALUE), INVALID);
        heap.stepMajor(1);
        due.is("young when sweeping", heap.colour(1), REJECTED);
        heap.stepMajor(1);
        due.is("freed", heap.colour(0), INVALID);
        due.is("errors", Calls.errors(heap), "7 4 0");
    }

    private static void budgetIsCutAtTheEnd() {
        GenerationalHeap heap = Calls.withOld(0, 0, 0);
        heap.setRoot(0, 2);
        heap.startMajor();
        due.is("stepMajor(5): a mark, a scan, three sweeps", heap.stepMajor(5), 2);
        due.is("phase()", heap.phase(), SWEEPING);
        due.is("stepMajor(200) with one unit left", heap.stepMajor(200), 0);
        due.is("phase()", heap.phase(), IDLE);
        due.is("majorCount()", heap.majorCount(), 1);
        due.is("stepMajor(1) at the end", heap.stepMajor(1), REJECTED);
    }
}
