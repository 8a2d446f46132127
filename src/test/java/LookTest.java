/** Promises 11 to 15: size, state, count, end and total. */
public final class LookTest {
    private static final int MIN = Integer.MIN_VALUE;
    private static final int MAX = Integer.MAX_VALUE;

    /** The chunks of the heap that all is looked up in: first unit, size, state. */
    private static final int[][] CHUNKS = {
        {0, 4, 0}, {4, 5, 1}, {9, 2, 0}, {11, 20, 2}, {31, 2, 0}, {33, 5, 1}, {38, 2, 0},
        {40, 15, 1}, {55, 2, 0}, {57, 16, 2}, {73, 2, 0}, {75, 4, 0}, {79, 26, 3}, {105, 2, 0},
        {107, 405, 4}
    };

    public static void main(String[] args) {
        sizesAndStates();
        VictimHeap heap = made();
        // Twice: looking changes nothing.
        for (int round = 0; round < 2; round++) {
            counts(heap);
            totals(heap);
            Check.same("end()", heap.end(), 512);
        }
        ends();
        Check.finish();
    }

    private static VictimHeap made() {
        VictimHeap heap = Heaps.sideBySide(4, 5, 2, 20, 2, 5, 2, 15, 2, 16, 2, 30, 2);
        heap.free(76);
        heap.malloc(3);
        heap.free(5);
        heap.free(12);
        heap.free(34);
        heap.free(41);
        heap.free(58);
        return heap;
    }

    private static void sizesAndStates() {
        VictimHeap heap = made();
        int chunk = 0;
        for (int unit = 0; unit < 512; unit++) {
            // An object is good for 512 calls.
            heap = unit % 200 == 0 ? made() : heap;
            boolean begins = chunk < CHUNKS.length && CHUNKS[chunk][0] == unit;
            Check.same("size(" + unit + ")", heap.size(unit), begins ? CHUNKS[chunk][1] : -1);
            Check.same("state(" + unit + ")", heap.state(unit), begins ? CHUNKS[chunk][2] : -1);
            chunk += begins ? 1 : 0;
        }
        int[] wrong = {-1, -2, 512, 513, 528, MAX, MIN};
        for (int unit : wrong) {
            Check.same("size(" + unit + ")", heap.size(unit), -1);
            Check.same("state(" + unit + ")", heap.state(unit), -1);
        }
    }

    private static void counts(VictimHeap heap) {
        int[] due = {8, 15, 0, 0, 0, 2, 0, 0, 0, 0, 0, 0, 0, 0, 0, 1, 2};
        for (int k = 0; k < due.length; k++) {
            Check.same("count(" + k + ")", heap.count(k), due[k]);
        }
        int[] wrong = {-1, -2, 17, 18, 20, 512, MAX, MIN};
        for (int k : wrong) {
            Check.same("count(" + k + ")", heap.count(k), -1);
        }
    }

    private static void totals(VictimHeap heap) {
        Check.same("total(USED)", heap.total(VictimHeap.USED), 20);
        Check.same("total(BIN)", heap.total(VictimHeap.BIN), 25);
        Check.same("total(TREE)", heap.total(VictimHeap.TREE), 36);
        Check.same("total(VICTIM)", heap.total(VictimHeap.VICTIM), 26);
        Check.same("total(TOP)", heap.total(VictimHeap.TOP), 405);
        int[] wrong = {-1, -2, 5, 6, 16, MAX, MIN};
        for (int which : wrong) {
            Check.same("total(" + which + ")", heap.total(which), -1);
        }
    }

    private static void ends() {
        VictimHeap heap = new VictimHeap(100);
        Check.same("end() at first", heap.end(), 0);
        heap.malloc(3);
        Check.same("end() after a step", heap.end(), 16);
        Check.same("size at END", heap.size(16), -1);
        Check.same("state at END", heap.state(16), -1);
        heap.malloc(50);
        Check.same("end() after several", heap.end(), 64);
        heap.free(5);
        Check.same("end() after free", heap.end(), 64);
        heap.trim(0);
        Check.same("end() after trim", heap.end(), 16);
        Check.same("size behind END", heap.size(16), -1);
    }
}
