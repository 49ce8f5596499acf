/** Promise 6, with what it does to ages (11), generations (16 to 22) and failures (25). */
public final class MinorTest {
    private static final int NULL = GenerationalHeap.NULL;
    private static final Due due = new Due("MinorTest");

    public static void main(String[] args) {
        nothingToCollect();
        survivorsComeInTracingOrder();
        rememberedObjectsComeBehindRoots();
        unreachableOldObjectsKeepYoungOnes();
        cyclesSurviveOnce();
        agesAndPromotion();
        promotionFailsWithoutRoom();
        aSmallerSurvivorIsPromotedBehindAFailure();
        rememberedSetIsMadeAnew();
        promotedObjectsAreRemembered();
        promotionWhileMarking();
        promotionWhileSweeping();
        due.end();
    }

    private static void nothingToCollect() {
        GenerationalHeap heap = new GenerationalHeap();
        due.is("minorCollection() of nothing", heap.minorCollection(), 0);
        heap.allocate(4);
        heap.allocate(1);
        heap.write(1, 0, 0);
        due.is("minorCollection() without roots", heap.minorCollection(), 2);
        due.is("exists", heap.exists(0) + heap.exists(1), 0);
        due.is("youngWords()", heap.youngWords(), 0);
    }

    private static void survivorsComeInTracingOrder() {
        GenerationalHeap heap = new GenerationalHeap();
        heap.reset(64, 128, 5);
        for (int k = 0; k < 8; k++) {
            heap.allocate(2);
        }
        heap.setRoot(0, 6);
        heap.setRoot(1, 3);
        heap.setRoot(3, 6);
        heap.write(6, 0, 5);
        heap.write(6, 1, 0);
        heap.write(3, 0, 0);
        heap.write(3, 1, 4);
        heap.write(5, 1, 1);
        heap.write(7, 0, 3);
        due.is("freed", heap.minorCollection(), 2);
        due.is("the roots, then breadth first", Calls.nursery(heap), "6 3 5 0 4 1");
        due.is("youngWords()", heap.youngWords(), 18);
        due.is("exists(2)", heap.exists(2), 0);
        due.is("exists(7)", heap.exists(7), 0);
        heap.setRoot(2, 1);
        heap.minorCollection();
        due.is("once more", Calls.nursery(heap), "6 3 1 5 0 4");
        heap.allocate(0);
        due.is("a new object is appended", Calls.nursery(heap), "6 3 1 5 0 4 8");
    }

    private static void rememberedObjectsComeBehindRoots() {
        GenerationalHeap heap = Calls.withOld(2, 2);
        for (int k = 0; k < 5; k++) {
            heap.allocate(1);
        }
        heap.write(1, 1, 3);
        heap.write(1, 0, 4);
        heap.write(0, 0, 5);
        heap.write(4, 0, 2);
        heap.setRoot(3, 6);
        heap.reset(64, 128, 1);
        due.is("nothing is left behind by reset", heap.minorCollection(), 0);

        heap = oldPairWithTenure3();
        for (int k = 0; k < 5; k++) {
            heap.allocate(1);
        }
        heap.write(1, 1, 3);
        heap.write(1, 0, 4);
        heap.write(0, 0, 5);
        heap.write(4, 0, 2);
        heap.setRoot(3, 6);
        due.is("freed", heap.minorCollection(), 0);
        due.is("roots, remembered fields, then breadth first", Calls.nursery(heap), "6 4 3 5 2");
    }

    /** Objects 0 and 1 with two fields each are old, the others age up to 3. */
    private static GenerationalHeap oldPairWithTenure3() {
        GenerationalHeap heap = new GenerationalHeap();
        heap.reset(64, 128, 3);
        heap.setRoot(0, heap.allocate(2));
        heap.setRoot(1, heap.allocate(2));
        for (int k = 0; k < 3; k++) {
            heap.minorCollection();
        }
        heap.setRoot(0, NULL);
        heap.setRoot(1, NULL);
        return heap;
    }

    private static void unreachableOldObjectsKeepYoungOnes() {
        GenerationalHeap heap = oldPairWithTenure3();
        heap.allocate(0);
        heap.write(0, 0, 2);
        due.is("reachableCount()", heap.reachableCount(), 0);
        due.is("freed", heap.minorCollection(), 0);
        due.is("exists(2)", heap.exists(2), 1);
        heap.write(0, 0, NULL);
        due.is("still remembered", Calls.remembered(heap), "0");
        due.is("freed when not referred to", heap.minorCollection(), 1);
        due.is("remembered no longer", heap.rememberedCount(), 0);
    }

    private static void cyclesSurviveOnce() {
        GenerationalHeap heap = new GenerationalHeap();
        heap.reset(64, 128, 5);
        heap.allocate(2);
        heap.allocate(2);
        heap.write(0, 0, 0);
        heap.write(0, 1, 1);
        heap.write(1, 0, 0);
        heap.write(1, 1, 1);
        heap.setRoot(2, 1);
        heap.setRoot(3, 1);
        due.is("freed", heap.minorCollection(), 0);
        due.is("nursery", Calls.nursery(heap), "1 0");
        due.is("age(0)", heap.age(0), 1);
        due.is("age(1)", heap.age(1), 1);
        heap.setRoot(2, NULL);
        heap.setRoot(3, NULL);
        due.is("a cycle without a root", heap.minorCollection(), 2);
    }

    private static void agesAndPromotion() {
        for (int tenure = 1; tenure <= 5; tenure++) {
            GenerationalHeap heap = new GenerationalHeap();
            heap.reset(8, 16, tenure);
            heap.setRoot(0, heap.allocate(3));
            for (int k = 1; k <= 6; k++) {
                heap.minorCollection();
                due.is("age with tenure " + tenure, heap.age(0), Math.min(k, tenure));
                due.is("isOld with tenure " + tenure, heap.isOld(0), k >= tenure ? 1 : 0);
            }
            due.is("oldWords()", heap.oldWords(), 4);
            due.is("oldCount()", heap.oldCount(), 1);
            due.is("youngWords()", heap.youngWords(), 0);
        }
    }

    private static void promotionFailsWithoutRoom() {
        GenerationalHeap heap = new GenerationalHeap();
        heap.reset(64, 16, 2);
        for (int k = 0; k < 4; k++) {
            heap.setRoot(k, heap.allocate(4));
        }
        heap.minorCollection();
        due.is("no failure below the threshold", heap.promotionFailures(), 0);
        heap.minorCollection();
        due.is("promotionFailures()", heap.promotionFailures(), 1);
        due.is("nursery", Calls.nursery(heap), "3");
        heap.minorCollection();
        due.is("it fails each time", heap.promotionFailures(), 2);
        due.is("and grows older", heap.age(3), 3);
        due.is("as the old ones don't", heap.age(0), 2);
        heap.setRoot(0, NULL);
        heap.startMajor();
        due.is("freed by the major collection", heap.stepMajor(200), 1);
        heap.minorCollection();
        due.is("isOld(3) with room again", heap.isOld(3), 1);
        due.is("age(3)", heap.age(3), 4);
        due.is("promotionFailures()", heap.promotionFailures(), 2);
        due.is("oldWords()", heap.oldWords(), 15);
        heap.setRoot(0, heap.allocate(0));
        heap.minorCollection();
        heap.minorCollection();
        due.is("exactly full", heap.oldWords(), 16);
        due.is("promotionFailures()", heap.promotionFailures(), 2);
    }

    private static void aSmallerSurvivorIsPromotedBehindAFailure() {
        GenerationalHeap heap = new GenerationalHeap();
        heap.reset(64, 16, 1);
        int[] fields = {4, 4, 4, 4, 1, 0};
        for (int count : fields) {
            heap.allocate(count);
        }
        heap.setRoot(0, 0);
        heap.setRoot(1, 1);
        heap.setRoot(2, 2);
        heap.setRoot(3, 3);
        heap.write(3, 0, 4);
        heap.write(3, 1, 5);
        heap.minorCollection();
        due.is("nursery", Calls.nursery(heap), "3 4");
        due.is("promotionFailures()", heap.promotionFailures(), 2);
        due.is("isOld(5)", heap.isOld(5), 1);
    }

    private static void rememberedSetIsMadeAnew() {
        GenerationalHeap heap = oldPairWithTenure3();
        heap.allocate(0);
        heap.allocate(0);
        heap.write(1, 0, 2);
        heap.write(0, 0, 3);
        heap.minorCollection();
        due.is("both refer to young objects", Calls.remembered(heap), "1 0");
        heap.write(1, 0, 0);
        heap.minorCollection();
        due.is("the first does no longer", Calls.remembered(heap), "0");
        heap.minorCollection();
        due.is("the young object was promoted", heap.isOld(3), 1);
        due.is("and its holder forgotten", heap.rememberedCount(), 0);
    }

    private static void promotedObjectsAreRemembered() {
        GenerationalHeap heap = new GenerationalHeap();
        heap.reset(64, 128, 2);
        for (int k = 0; k < 3; k++) {
            heap.allocate(1);
        }
        heap.setRoot(0, 2);
        heap.setRoot(1, 0);
        heap.setRoot(2, 1);
        heap.minorCollection();
        heap.allocate(0);
        heap.write(0, 0, 3);
        heap.write(2, 0, 3);
        heap.write(1, 0, 0);
        heap.minorCollection();
        due.is("in the order of promotion", Calls.remembered(heap), "2 0");
        due.is("oldCount()", heap.oldCount(), 3);
        heap.allocate(1);
        heap.setRoot(3, 4);
        heap.write(1, 0, 4);
        due.is("behind the former ones", Calls.remembered(heap), "2 0 1");
        heap.allocate(0);
        heap.minorCollection();
        due.is("isOld(3)", heap.isOld(3), 1);
        due.is("those of a promoted object leave", Calls.remembered(heap), "1");
    }

    private static void promotionWhileMarking() {
        GenerationalHeap heap = Calls.withOld(1);
        heap.setRoot(0, 0);
        heap.startMajor();
        heap.allocate(1);
        heap.allocate(0);
        heap.setRoot(1, 2);
        heap.setRoot(2, 1);
        due.is("greyCount() before", heap.greyCount(), 1);
        due.is("minorCollection()", heap.minorCollection(), 0);
        due.is("greyCount() behind", heap.greyCount(), 3);
        due.is("colour(1)", heap.colour(1), GenerationalHeap.GREY);
        due.is("colour(2)", heap.colour(2), GenerationalHeap.GREY);
        heap.stepMajor(2);
        due.is("first promoted, first marked", heap.colour(2), GenerationalHeap.BLACK);
        due.is("second promoted", heap.colour(1), GenerationalHeap.GREY);
        due.is("phase()", heap.phase(), GenerationalHeap.MARKING);
    }

    private static void promotionWhileSweeping() {
        GenerationalHeap heap = Calls.withOld(1);
        heap.startMajor();
        heap.stepMajor(1);
        due.is("phase()", heap.phase(), GenerationalHeap.SWEEPING);
        heap.setRoot(0, heap.allocate(0));
        heap.minorCollection();
        due.is("colour(1)", heap.colour(1), GenerationalHeap.BLACK);
        due.is("greyCount()", heap.greyCount(), 0);
        due.is("one unit frees", heap.stepMajor(1), 1);
        due.is("the promoted one isn't in the sweep list", heap.stepMajor(1), 0);
        due.is("phase()", heap.phase(), GenerationalHeap.IDLE);
        due.is("exists(1)", heap.exists(1), 1);
    }
}
