/** Promise 33: digest, value by value. */
public final class DigestTest {
    private static final Due due = new Due("DigestTest");

    public static void main(String[] args) {
        GenerationalHeap heap = new GenerationalHeap();
        due.is("digest() of a new object", heap.digest(), hash(0, 0, 0, 0, 0, -1, -1, -1, -1,
            0, 0, 0, 0, 0, 0, 0, 0, 0, 0, 0, 0));
        due.is("digest() again", heap.digest(), heap.digest());
        manyValues();
        colours();
        everyPartCounts();
        due.end();
    }

    private static long hash(int... values) {
        long hash = 18028;
        for (int value : values) {
            hash = 31 * hash + value;
        }
        return hash;
    }

    private static void manyValues() {
        GenerationalHeap heap = new GenerationalHeap();
        heap.reset(8, 16, 1);
        heap.setRoot(1, heap.allocate(2));
        heap.minorCollection();
        heap.allocate(1);
        heap.write(0, 1, 1);
        heap.write(1, 0, 0);
        heap.allocate(0);
        heap.minorCollection();
        heap.allocate(1);
        heap.write(0, 0, 3);
        heap.allocate(3);
        heap.append(32);
        heap.append(32);
        heap.describe(3);
        heap.allocate(9);
        heap.age(99);
        heap.stepMajor(1);
        heap.allocate(4);
        due.is("digest() when idle", heap.digest(), hash(2, 1, 1, 2, 18, -1, 0, -1, -1,
            0, 0, 5, 0, 2, 0, 2, 3, 4, 6, 2, 5, 1, 0,
            0, 1, 1, 2, 3, 1,
            1, 1, 1, 1, 0,
            3, 0, 0, 1, -1,
            4, 0, 0, 3, -1, -1, -1,
            3));
    }

    private static void colours() {
        GenerationalHeap heap = Calls.withOld(1, 0, 0);
        heap.setRoot(0, 0);
        heap.write(0, 0, 2);
        heap.startMajor();
        heap.stepMajor(1);
        heap.allocate(0);
        due.is("digest() when marking", heap.digest(), hash(0, 0, 0, 0, 0, 0, -1, -1, -1,
            1, 1, 4, 0, 3, 0, 1, 3, 1, 3, 4, 0,
            0, 1, 1, 1, 2, 2,
            1, 1, 1, 0, 0,
            2, 1, 1, 0, 1,
            3, 0, 0, 0,
            2));
        heap.stepMajor(2);
        due.is("digest() when sweeping", heap.digest(), hash(0, 0, 0, 0, 0, 0, -1, -1, -1,
            2, 0, 4, 0, 3, 0, 1, 3, 1, 3, 4, 0,
            0, 1, 1, 1, 2, 2,
            1, 1, 1, 0, 0,
            2, 1, 1, 0, 2,
            3, 0, 0, 0,
            2));
        heap.stepMajor(200);
        due.is("digest() behind the cycle", heap.digest(), hash(0, 0, 0, 0, 0, 0, -1, -1, -1,
            0, 0, 4, 0, 3, 1, 1, 3, 1, 2, 3, 0,
            0, 1, 1, 1, 2,
            2, 1, 1, 0,
            3, 0, 0, 0,
            2));
    }

    /** A call that changes the state changes the digest; a question doesn't. */
    private static void everyPartCounts() {
        GenerationalHeap heap = Calls.withOld(1);
        long before = heap.digest();
        heap.exists(5);
        heap.reachableCount();
        heap.youngObject(5);
        heap.describe(0);
        heap.clearText();
        due.holds("the output's length counts", before != heap.digest());
        before = heap.digest();
        heap.describe(0);
        heap.root(0);
        heap.errorCount(2);
        due.is("digest() behind questions", heap.digest(), before);
        heap.minorCollection();
        due.holds("a minor collection counts", before != heap.digest());
    }
}
