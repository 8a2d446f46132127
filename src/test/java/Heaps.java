/** Heaps as texts, and ways to bring one into a state that a test needs. */
final class Heaps {
    /** By state: used, bin, tree (R for its root), victim, top. */
    private static final char[] LETTERS = {'U', 'B', 'R', 'V', 'T'};

    private Heaps() {
    }

    /** All chunks in their order, each as its state's letter and its size: "U4 B10 T2". */
    static String layout(VictimHeap heap) {
        StringBuilder text = new StringBuilder();
        int unit = 0;
        while (unit < heap.end()) {
            int size = heap.size(unit);
            int state = heap.state(unit);
            if (size < 2 || state < 0 || state > 4) {
                return text.append(" no chunk at ").append(unit).toString();
            }
            text.append(unit == 0 ? "" : " ").append(LETTERS[state]).append(size);
            if (beginsWithin(heap, unit + 1, unit + size)) {
                text.append(" with another one inside");
            }
            unit += size;
        }
        if (beginsWithin(heap, heap.end(), 600)) {
            text.append(" and one behind END");
        }
        return text.toString();
    }

    private static boolean beginsWithin(VictimHeap heap, int from, int to) {
        for (int unit = from; unit < to; unit++) {
            if (heap.size(unit) != VictimHeap.NONE || heap.state(unit) != VictimHeap.NONE) {
                return true;
            }
        }
        return false;
    }

    /** A heap of limit and END 512 that begins with used chunks of these sizes; the rest is the top. */
    static VictimHeap sideBySide(int... sizes) {
        VictimHeap heap = new VictimHeap(512);
        heap.free(heap.malloc(511));
        for (int size : sizes) {
            heap.malloc(size - 1);
        }
        return heap;
    }

    /** Writes value + i into each unit i of the data. */
    static void fill(VictimHeap heap, int p, int value) {
        for (int i = 0; i < heap.usable(p); i++) {
            heap.write(p, i, value + i);
        }
    }

    /** The data from unit 0 on as a text, a blank between two. */
    static String data(VictimHeap heap, int p) {
        StringBuilder text = new StringBuilder();
        for (int i = 0; i < heap.usable(p); i++) {
            text.append(i == 0 ? "" : " ").append(heap.read(p, i));
        }
        return text.toString();
    }
}
