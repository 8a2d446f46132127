/** The example in README.md: its calls in their order, each with the answer that is told there. */
public final class ReadmeTest {
    public static void main(String[] args) {
        Check.each(ReadmeTest::example);
    }

    private static void example() {
        VictimHeap heap = new VictimHeap(200);
        int p = heap.malloc(3);
        Check.same("malloc(3)", p, 1);
        Check.same("write(p, 0, 7)", heap.write(p, 0, 7), true);
        Check.same("write(p, 3, 7)", heap.write(p, 3, 7), false);
        int q = heap.calloc(5);
        Check.same("calloc(5)", q, 5);
        int r = heap.align(6, 8);
        Check.same("align(6, 8)", r, 16);
        p = heap.realloc(p, 10);
        Check.same("realloc(p, 10)", p, 23);
        Check.same("read(p, 0)", heap.read(p, 0), 7);
        Check.same("free(q)", heap.free(q), true);
        Check.same("free(q) again", heap.free(q), false);
        Check.same("malloc(500)", heap.malloc(500), 0);
        Check.same("free(p)", heap.free(p), true);
        Check.same("trim(0)", heap.trim(0), 16);
        Check.same("total(USED)", heap.total(VictimHeap.USED), 7);
    }
}
