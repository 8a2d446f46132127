/** Promises 8, 9 and 10: usable, read and write. */
public final class DataTest {
    private static final int MIN = Integer.MIN_VALUE;
    private static final int MAX = Integer.MAX_VALUE;

    public static void main(String[] args) {
        VictimHeap heap = Heaps.sideBySide(4, 5, 6, 2);
        heap.free(5);
        Check.layout("one free", heap, "U4 B5 U6 U2 T495");
        usable(heap);
        wrongPointers(heap);
        wrongUnits(heap);
        numbers(heap);
        freed(heap);
        Check.finish();
    }

    private static void usable(VictimHeap heap) {
        Check.same("usable(1)", heap.usable(1), 3);
        Check.same("usable(10)", heap.usable(10), 5);
        Check.same("usable(16)", heap.usable(16), 1);
    }

    private static void wrongPointers(VictimHeap heap) {
        int[] wrong = {0, 2, 4, 5, 6, 9, 11, 18, 19, 512, 513, -1, MAX, MIN};
        for (int p : wrong) {
            Check.same("usable(" + p + ")", heap.usable(p), 0);
            Check.same("write(" + p + ", 0, 1)", heap.write(p, 0, 1), false);
            Check.same("read(" + p + ", 0)", heap.read(p, 0), 0);
        }
    }

    private static void wrongUnits(VictimHeap heap) {
        heap.write(1, 2, 77);
        heap.write(10, 0, 88);
        int[] wrong = {-1, -2, 5, 6, 512, MAX, MIN};
        for (int i : wrong) {
            Check.same("write(10, " + i + ", 9)", heap.write(10, i, 9), false);
            Check.same("read(10, " + i + ")", heap.read(10, i), 0);
        }
        Check.same("write(16, 1, 9)", heap.write(16, 1, 9), false);
        Check.same("read(1, 3)", heap.read(1, 3), 0);
        Check.same("read(1, 2)", heap.read(1, 2), 77);
        Check.same("read(10, 0)", heap.read(10, 0), 88);
        Check.same("data of 10", Heaps.data(heap, 10), "88 0 0 0 0");
        Check.layout("no chunk is changed", heap, "U4 B5 U6 U2 T495");
    }

    private static void numbers(VictimHeap heap) {
        Check.same("write(10, 0, MIN)", heap.write(10, 0, MIN), true);
        Check.same("write(10, 1, MAX)", heap.write(10, 1, MAX), true);
        Check.same("write(10, 2, -1)", heap.write(10, 2, -1), true);
        Check.same("write(10, 4, 5)", heap.write(10, 4, 5), true);
        Check.same("write(10, 4, 6)", heap.write(10, 4, 6), true);
        Check.same("write(16, 0, 3)", heap.write(16, 0, 3), true);
        Check.same("data of 10", Heaps.data(heap, 10), MIN + " " + MAX + " -1 0 6");
        Check.same("data of 16", Heaps.data(heap, 16), "3");
        Check.layout("numbers are no sizes", heap, "U4 B5 U6 U2 T495");
    }

    private static void freed(VictimHeap heap) {
        heap.free(10);
        Check.same("usable of a freed one", heap.usable(10), 0);
        Check.same("read of a freed one", heap.read(10, 4), 0);
        Check.same("write of a freed one", heap.write(10, 4, 1), false);
        Check.same("taken again", heap.malloc(10), 5);
        Check.same("numbers of two chunks", Heaps.data(heap, 5),
            "0 0 0 0 0 " + MIN + " " + MAX + " -1 0 6");
    }
}
