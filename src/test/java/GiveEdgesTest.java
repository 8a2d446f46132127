import java.util.List;

/** Promises 1 to 4: each sentence that names a boundary, on both sides of it. */
public final class GiveEdgesTest {
    private static final int MIN = Integer.MIN_VALUE;
    private static final int MAX = Integer.MAX_VALUE;

    public static void main(String[] args) {
        Check.each(
            GiveEdgesTest::limitOfNewObject,
            GiveEdgesTest::newObjectIsEmpty,
            GiveEdgesTest::mallocBelowOne,
            GiveEdgesTest::mallocAnswersPointer,
            GiveEdgesTest::mallocFails,
            GiveEdgesTest::mallocAbove511,
            GiveEdgesTest::callocAsMalloc,
            GiveEdgesTest::callocData,
            GiveEdgesTest::freeUsed,
            GiveEdgesTest::freeRefused);
    }

    private static void limitOfNewObject() {
        Check.sentence("Promise 1", "The limit is limit, but at least 16 and at most 512.");
        // END moves by 16: a limit shows in the last multiple of 16 that is not above it.
        int[][] limitsAndEnds = {
            {MIN, 16}, {-512, 16}, {-1, 16}, {0, 16}, {1, 16}, {15, 16}, {16, 16}, {17, 16},
            {31, 16}, {32, 32}, {33, 32}, {47, 32}, {48, 48}, {200, 192}, {495, 480}, {496, 496},
            {511, 496}, {512, 512}, {513, 512}, {528, 512}, {1024, 512}, {MAX, 512}
        };
        for (int[] pair : limitsAndEnds) {
            String what = "limit " + pair[0] + ": ";
            VictimHeap heap = new VictimHeap(pair[0]);
            Check.same(what + "a unit too many", heap.malloc(pair[1]), 0);
            Check.same(what + "END after it", heap.end(), 0);
            Check.same(what + "all units", heap.malloc(pair[1] - 1), 1);
            Check.same(what + "END", heap.end(), pair[1]);
            Check.same(what + "two units more", heap.malloc(1), 0);
            Check.same(what + "END at last", heap.end(), pair[1]);
        }
    }

    private static void newObjectIsEmpty() {
        Check.sentence("Promise 1, it is empty", "A new object");
        VictimHeap heap = new VictimHeap(100);
        Check.same("end()", heap.end(), 0);
        Check.same("count(1)", heap.count(1), 0);
        Check.same("free(0)", heap.free(0), false);
        Check.same("free(1)", heap.free(1), false);
        Check.same("realloc(1, 1)", heap.realloc(1, 1), 0);
        Check.same("trim(0)", heap.trim(0), 0);
        Check.same("write(1, 0, 5)", heap.write(1, 0, 5), false);
        Check.same("end() after it", heap.end(), 0);
        Check.same("malloc(15)", heap.malloc(15), 1);
        Check.same("its data", Heaps.data(heap, 1), "0 0 0 0 0 0 0 0 0 0 0 0 0 0 0");
    }

    private static void mallocBelowOne() {
        Check.sentence("Promise 2", "(n below 1 counts as 1): n + 1 units are taken.");
        for (int n : new int[] {1, 0, -1, -2, -511, -512, MIN + 1, MIN}) {
            VictimHeap heap = new VictimHeap(64);
            Check.same("malloc(" + n + ")", heap.malloc(n), 1);
            Check.layout("malloc(" + n + ")", heap, "U2 T14");
            Check.same("usable after malloc(" + n + ")", heap.usable(1), 1);
            VictimHeap bins = Heaps.of(64, "B3 U2 B2 U2 T7");
            Check.same("malloc(" + n + ") with bin 2", bins.malloc(n), 6);
        }
        VictimHeap two = new VictimHeap(64);
        Check.same("malloc(2)", two.malloc(2), 1);
        Check.layout("malloc(2)", two, "U3 T13");
    }

    private static void mallocAnswersPointer() {
        Check.sentence("Promise 2", "A used chunk with at least n units of data");
        for (int n = 1; n <= 511; n += n < 40 ? 1 : 10) {
            VictimHeap heap = new VictimHeap(512);
            int p = heap.malloc(n);
            Check.same("malloc(" + n + ")", p, 1);
            // A rest of one unit, where n + 1 is one less than a multiple of 16, is data too.
            Check.same("usable after malloc(" + n + ")", heap.usable(p), n % 16 == 14 ? n + 1 : n);
            Check.same("state after malloc(" + n + ")", heap.state(p - 1), VictimHeap.USED);
            Check.same("last unit after malloc(" + n + ")", heap.write(p, n - 1, 1), true);
        }
        VictimHeap second = Heaps.of(64, "U4 T12");
        Check.same("malloc(3) behind 4 units", second.malloc(3), 5);
    }

    private static void mallocFails() {
        Check.sentence("Promise 2", "0 when it fails");
        VictimHeap all = new VictimHeap(32);
        Check.same("malloc(31) of 32", all.malloc(31), 1);
        Refusal.same("malloc(32) of 32", () -> new VictimHeap(32), heap -> heap.malloc(32), 0);
        Refusal.same("malloc(1) of none", () -> Heaps.written(32, "U32"), heap -> heap.malloc(1), 0);
        VictimHeap most = Refusal.mixed();
        Check.same("malloc(50) of 51", most.malloc(50), 78);
        Refusal.same("malloc(51) of 51", Refusal::mixed, heap -> heap.malloc(51), 0);
    }

    private static void mallocAbove511() {
        Check.sentence("Promise 2", "or n is above 511.");
        VictimHeap all = new VictimHeap(512);
        Check.same("malloc(511)", all.malloc(511), 1);
        Check.layout("malloc(511)", all, "U512");
        for (int n : new int[] {512, 513, 527, 528, 1023, 65536, MAX - 1, MAX}) {
            Refusal.same("malloc(" + n + ")", () -> new VictimHeap(512), heap -> heap.malloc(n), 0);
            Refusal.same("malloc(" + n + ")", Refusal::mixed, heap -> heap.malloc(n), 0);
        }
    }

    private static void callocAsMalloc() {
        Check.sentence("Promise 3", "As malloc(n)");
        for (int n : new int[] {1, 0, -1, MIN}) {
            VictimHeap heap = new VictimHeap(64);
            Check.same("calloc(" + n + ")", heap.calloc(n), 1);
            Check.layout("calloc(" + n + ")", heap, "U2 T14");
        }
        VictimHeap two = new VictimHeap(64);
        Check.same("calloc(2)", two.calloc(2), 1);
        Check.layout("calloc(2)", two, "U3 T13");
        VictimHeap all = new VictimHeap(512);
        Check.same("calloc(511)", all.calloc(511), 1);
        Check.layout("calloc(511)", all, "U512");
        for (int n : new int[] {512, 513, MAX - 1, MAX}) {
            Refusal.same("calloc(" + n + ")", () -> new VictimHeap(512), heap -> heap.calloc(n), 0);
            Refusal.same("calloc(" + n + ")", Refusal::mixed, heap -> heap.calloc(n), 0);
        }
        VictimHeap most = Refusal.mixed();
        Check.same("calloc(50) of 51", most.calloc(50), 78);
        Refusal.same("calloc(51) of 51", Refusal::mixed, heap -> heap.calloc(51), 0);
        Refusal.same("calloc(1) of none", () -> Heaps.written(32, "U32"), heap -> heap.calloc(1), 0);
    }

    private static void callocData() {
        Check.sentence("Promise 3", "but all its data become 0.");
        VictimHeap exact = Heaps.written(16, "U2 B5 U2 T7");
        Check.same("calloc(4)", exact.calloc(4), 3);
        Check.same("the data alone", Heaps.numbers(exact),
            "101 102 0 0 0 0 107 108 109 110 111 112 113 114 115");
        VictimHeap more = Heaps.written(16, "U2 B6 U2 T6");
        Check.same("calloc(4), a unit more", more.calloc(4), 3);
        Check.same("the data alone, a unit more", Heaps.numbers(more),
            "101 102 0 0 0 0 0 108 109 110 111 112 113 114 115");
        VictimHeap least = Heaps.written(16, "U2 B2 U2 T10");
        Check.same("calloc(0)", least.calloc(0), 3);
        Check.same("the data alone, one unit", Heaps.numbers(least),
            "101 102 0 104 105 106 107 108 109 110 111 112 113 114 115");
        VictimHeap cut = Heaps.written(16, "U2 V8 U2 T4");
        Check.same("calloc(4) of the victim", cut.calloc(4), 3);
        Check.same("the data alone, not the rest", Heaps.numbers(cut),
            "101 102 0 0 0 0 107 108 109 110 111 112 113 114 115");
        VictimHeap malloc = Heaps.written(16, "U2 B5 U2 T7");
        malloc.malloc(4);
        Check.same("malloc leaves them", Heaps.data(malloc, 3), "103 104 105 106");
    }

    private static void freeUsed() {
        Check.sentence("Promise 4", "A used chunk is freed: true");
        String[] after = {
            "B10 U2 R17 U2 R17 U2 U3 V17 U2 U5 T3",
            "B4 U2 R23 U2 R17 U2 U3 V17 U2 U5 T3",
            "B4 U2 B4 U2 R36 U2 U3 V17 U2 U5 T3",
            "B4 U2 B4 U2 R17 U2 R19 U3 V17 U2 U5 T3",
            "B4 U2 B4 U2 R17 U2 R17 U2 V20 U2 U5 T3",
            "B4 U2 B4 U2 R17 U2 R17 U2 U3 V19 U5 T3",
            "B4 U2 B4 U2 R17 U2 R17 U2 U3 V17 U2 T8"
        };
        int[] pointers = {5, 11, 30, 49, 51, 71, 73};
        for (int i = 0; i < pointers.length; i++) {
            VictimHeap heap = Refusal.mixed();
            Check.same("free(" + pointers[i] + ")", heap.free(pointers[i]), true);
            Check.layout("free(" + pointers[i] + ")", heap, after[i]);
        }
    }

    private static void freeRefused() {
        Check.sentence("Promise 4", "false, refused, when p is no pointer of a used chunk.");
        List<Integer> pointers = List.of(5, 11, 30, 49, 51, 71, 73);
        for (int p = -3; p <= 132; p++) {
            int tried = p;
            if (!pointers.contains(p)) {
                Refusal.same("free(" + p + ")", Refusal::mixed, heap -> heap.free(tried), false);
            }
        }
        for (int p : new int[] {511, 512, 513, -512, MAX - 1, MAX, MIN, MIN + 1}) {
            Refusal.same("free(" + p + ")", Refusal::mixed, heap -> heap.free(p), false);
        }
        for (int p : new int[] {-1, 0, 1, 2, 15, 16, 17}) {
            Refusal.same("free(" + p + ") of none", () -> new VictimHeap(64),
                heap -> heap.free(p), false);
        }
        Refusal.same("free(1) a second time", GiveEdgesTest::freedOnce, heap -> heap.free(1), false);
        Refusal.same("free(17) behind END", GiveEdgesTest::usedBehindEnd, heap -> heap.free(17), false);
        Refusal.same("free(9) of a part", GiveEdgesTest::merged, heap -> heap.free(9), false);
    }

    private static VictimHeap freedOnce() {
        VictimHeap heap = Heaps.written(16, "U4 U4 T8");
        heap.free(1);
        return heap;
    }

    private static VictimHeap usedBehindEnd() {
        VictimHeap heap = Heaps.written(32, "U16 U16");
        heap.free(17);
        heap.trim(0);
        return heap;
    }

    private static VictimHeap merged() {
        VictimHeap heap = Heaps.written(32, "U8 U4 U20");
        heap.free(9);
        heap.free(1);
        return heap;
    }
}
