/** Promise 3: calloc. */
public final class CallocTest {
    public static void main(String[] args) {
        asMalloc();
        dataBecomeZero();
        onlyDataBecomeZero();
        Check.finish();
    }

    private static void asMalloc() {
        VictimHeap heap = new VictimHeap(32);
        Check.same("calloc(3)", heap.calloc(3), 1);
        Check.same("calloc(0)", heap.calloc(0), 5);
        Check.same("calloc(MIN)", heap.calloc(Integer.MIN_VALUE), 7);
        Check.layout("calloc", heap, "U4 U2 U2 T8");
        Heaps.fill(heap, 1, 5);
        Check.same("calloc that fails", heap.calloc(24), 0);
        Check.same("calloc(512)", heap.calloc(512), 0);
        Check.same("calloc(MAX)", heap.calloc(Integer.MAX_VALUE), 0);
        Check.layout("calloc that fails", heap, "U4 U2 U2 T8");
        Check.same("data after calloc that fails", Heaps.data(heap, 1), "5 6 7");

        VictimHeap whole = new VictimHeap(512);
        Check.same("calloc(511)", whole.calloc(511), 1);
        Check.layout("calloc(511)", whole, "U512");
    }

    private static void dataBecomeZero() {
        VictimHeap heap = Heaps.sideBySide(6, 2, 6, 2);
        Heaps.fill(heap, 1, 1);
        Heaps.fill(heap, 9, 1);
        heap.free(1);
        heap.free(9);
        Check.same("calloc, exact", heap.calloc(5), 9);
        Check.same("data, exact", Heaps.data(heap, 9), "0 0 0 0 0");
        Check.same("calloc, one unit more", heap.calloc(4), 1);
        Check.same("data, one unit more", Heaps.data(heap, 1), "0 0 0 0 0");
    }

    private static void onlyDataBecomeZero() {
        VictimHeap heap = new VictimHeap(64);
        heap.malloc(12);
        Heaps.fill(heap, 1, 100);
        heap.realloc(1, 3);
        Check.same("calloc behind", heap.calloc(5), 5);
        Check.layout("calloc behind", heap, "U4 U6 T6");
        Check.same("data behind", Heaps.data(heap, 5), "0 0 0 0 0");
        heap.free(5);
        heap.realloc(1, 12);
        // Unit 4 was the chunk's own, and units 10 to 12 were behind it: none of them its data.
        Check.same("what was not data", Heaps.data(heap, 1),
            "100 101 102 103 0 0 0 0 0 109 110 111");
    }
}
