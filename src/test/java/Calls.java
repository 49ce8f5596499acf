/** Runs of calls that several tests need. */
final class Calls {
    private Calls() {
    }

    static void type(GenerationalHeap heap, String text) {
        heap.clearText();
        for (int k = 0; k < text.length(); k++) {
            heap.append(text.charAt(k));
        }
    }

    static int run(GenerationalHeap heap, String text) {
        type(heap, text);
        return heap.runScript();
    }

    static String output(GenerationalHeap heap) {
        StringBuilder line = new StringBuilder();
        for (int k = 0; heap.outputByte(k) != GenerationalHeap.NONE; k++) {
            line.append((char) heap.outputByte(k));
        }
        return line.toString();
    }

    static String nursery(GenerationalHeap heap) {
        StringBuilder line = new StringBuilder();
        for (int k = 0; k < heap.youngCount(); k++) {
            line.append(k == 0 ? "" : " ").append(heap.youngObject(k));
        }
        return line.toString();
    }

    static String remembered(GenerationalHeap heap) {
        StringBuilder line = new StringBuilder();
        for (int k = 0; k < heap.rememberedCount(); k++) {
            line.append(k == 0 ? "" : " ").append(heap.remembered(k));
        }
        return line.toString();
    }

    static String errors(GenerationalHeap heap) {
        return heap.errorCount(0) + " " + heap.errorCount(1) + " " + heap.errorCount(2);
    }

    /** A heap with tenure 1 whose objects 0, 1, .. with these field counts are old and unrooted. */
    static GenerationalHeap withOld(int... fieldCounts) {
        GenerationalHeap heap = new GenerationalHeap();
        heap.reset(64, 128, 1);
        for (int fields : fieldCounts) {
            int id = heap.allocate(fields);
            heap.setRoot(0, id);
            heap.minorCollection();
        }
        heap.setRoot(0, GenerationalHeap.NULL);
        return heap;
    }
}
