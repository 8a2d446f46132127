import java.util.List;

/** Promise 5: each sentence that names a boundary, on both sides of it. */
public final class ReallocEdgesTest {
    private static final int MIN = Integer.MIN_VALUE;
    private static final int MAX = Integer.MAX_VALUE;

    public static void main(String[] args) {
        Check.each(
            ReallocEdgesTest::belowOne,
            ReallocEdgesTest::restOfTwo,
            ReallocEdgesTest::hasFewer,
            ReallocEdgesTest::endGrows,
            ReallocEdgesTest::endGrowsBehindTop,
            ReallocEdgesTest::endDoesNotGrow,
            ReallocEdgesTest::notAboveLimit,
            ReallocEdgesTest::newUnitsBelongToTop,
            ReallocEdgesTest::freeChunkBehind,
            ReallocEdgesTest::restIsWhatItWas,
            ReallocEdgesTest::restIntoStore,
            ReallocEdgesTest::taken,
            ReallocEdgesTest::copied,
            ReallocEdgesTest::oldOneIsFreed,
            ReallocEdgesTest::fails,
            ReallocEdgesTest::above511,
            ReallocEdgesTest::noPointer);
    }

    /** A realloc in a heap of this limit that is laid as told, and how it lies then. */
    private static VictimHeap called(int limit, String before, int p, int n, int answer,
            String after) {
        VictimHeap heap = Heaps.of(limit, before);
        String what = "realloc(" + p + ", " + n + ") in " + before + " up to " + limit;
        Check.same(what, heap.realloc(p, n), answer);
        Check.layout(what, heap, after);
        return heap;
    }

    private static void belowOne() {
        Check.sentence("Promise 5", "(n below 1 counts as 1, s = n + 1)");
        for (int n : new int[] {1, 0, -1, -2, -511, MIN + 1, MIN}) {
            called(16, "U4 U12", 1, n, 1, "U2 B2 U12");
            called(16, "U3 U13", 1, n, 1, "U3 U13");
            called(16, "U2 U14", 1, n, 1, "U2 U14");
        }
        called(16, "U4 U12", 1, 2, 1, "U4 U12");
        called(16, "U5 U11", 1, 2, 1, "U3 B2 U11");
    }

    private static void restOfTwo() {
        Check.sentence("Promise 5",
            "If it has s or more units, and the rest behind the first s is 2 or more, the "
            + "rest is freed.");
        called(16, "U6 U10", 1, 5, 1, "U6 U10");
        called(16, "U6 U10", 1, 4, 1, "U6 U10");
        called(16, "U6 U10", 1, 3, 1, "U4 B2 U10");
        called(16, "U10 U6", 11, 4, 11, "U10 U6");
        called(16, "U10 U6", 11, 3, 11, "U10 U4 T2");
        called(16, "U6 B4 U6", 1, 4, 1, "U6 B4 U6");
        called(16, "U6 B4 U6", 1, 3, 1, "U4 B6 U6");
        called(16, "U6 V4 U6", 1, 4, 1, "U6 V4 U6");
        called(16, "U6 V4 U6", 1, 3, 1, "U4 V6 U6");
        called(16, "U6 T10", 1, 4, 1, "U6 T10");
        called(16, "U6 T10", 1, 3, 1, "U4 T12");
        called(32, "U20 U12", 1, 3, 1, "U4 R16 U12");
        called(32, "U20 U12", 1, 4, 1, "U5 B15 U12");
    }

    private static void hasFewer() {
        Check.sentence("Promise 5", "If it has fewer");
        called(32, "U6 U2 B7 U2 T15", 1, 5, 1, "U6 U2 B7 U2 T15");
        called(32, "U6 U2 B7 U2 T15", 1, 6, 9, "B6 U2 U7 U2 T15");
        called(16, "U6 B7 U3", 1, 5, 1, "U6 B7 U3");
        called(16, "U6 B7 U3", 1, 6, 1, "U7 B6 U3");
    }

    private static void endGrows() {
        Check.sentence("Promise 5, it ends at END",
            "they have too few units together, END grows by the least multiple of 16 with "
            + "which they have s");
        called(64, "U4 U12", 5, 11, 5, "U4 U12");
        called(64, "U4 U12", 5, 12, 5, "U4 U13 T15");
        called(64, "U4 U12", 5, 25, 5, "U4 U26 T2");
        called(64, "U4 U12", 5, 26, 5, "U4 U28");
        called(64, "U4 U12", 5, 27, 5, "U4 U28");
        called(64, "U4 U12", 5, 28, 5, "U4 U29 T15");
        called(64, "U4 U12", 5, 43, 5, "U4 U44");
        called(64, "U4 U12", 5, 44, 5, "U4 U45 T15");
        called(64, "R20 U12", 21, 12, 21, "R20 U13 T15");
        called(64, "U16", 1, 16, 1, "U17 T15");
    }

    private static void endGrowsBehindTop() {
        Check.sentence("Promise 5",
            "or the top touches its end, and they have too few units together, END grows by "
            + "the least multiple of 16 with which they have s");
        called(64, "U4 U8 T4", 5, 10, 5, "U4 U12");
        called(64, "U4 U8 T4", 5, 11, 5, "U4 U12");
        called(64, "U4 U8 T4", 5, 12, 5, "U4 U13 T15");
        called(64, "U4 U8 T4", 5, 26, 5, "U4 U28");
        called(64, "U4 U8 T4", 5, 27, 5, "U4 U28");
        called(64, "U4 U8 T4", 5, 28, 5, "U4 U29 T15");
        called(64, "R20 U4 T8", 21, 11, 21, "R20 U12");
        called(64, "R20 U4 T8", 21, 12, 21, "R20 U13 T15");
    }

    private static void endDoesNotGrow() {
        Check.sentence("Promise 5", "if it ends at END, or the top touches its end");
        called(64, "U4 U2 R20 U6", 1, 9, 7, "B4 U2 U10 V10 U6");
        called(64, "U4 B3 U2 R20 U3", 1, 9, 10, "B7 U2 U10 V10 U3");
        called(64, "U4 U2 R20 U2 T4", 1, 9, 7, "B4 U2 U10 V10 U2 T4");
        called(64, "U4 U2 T10", 1, 11, 7, "B4 U2 U12 T14");
    }

    private static void notAboveLimit() {
        Check.sentence("Promise 5", "if it is not above the limit then");
        called(32, "U4 U12", 5, 27, 5, "U4 U28");
        called(32, "U4 U12", 5, 28, 0, "U4 U12");
        called(31, "U4 U12", 5, 12, 0, "U4 U12");
        called(32, "U4 U12", 5, 12, 5, "U4 U13 T15");
        called(47, "U4 U8 T4", 5, 27, 5, "U4 U28");
        called(47, "U4 U8 T4", 5, 28, 0, "U4 U8 T4");
        called(48, "U4 U8 T4", 5, 28, 5, "U4 U29 T15");
        called(48, "R20 U2 U4 T6", 23, 16, 23, "R20 U2 U17 T9");
        called(47, "R20 U2 U4 T6", 23, 16, 1, "U17 B3 U2 T10");
        called(47, "R20 U2 U10", 23, 16, 1, "U17 B3 U2 T10");
    }

    private static void newUnitsBelongToTop() {
        Check.sentence("Promise 5", "(the new units belong to the top)");
        VictimHeap heap = called(64, "U4 U12", 5, 12, 5, "U4 U13 T15");
        Check.same("total(TOP)", heap.total(VictimHeap.TOP), 15);
        Check.same("the next one is from the top", heap.malloc(3), 18);
        VictimHeap more = called(64, "U4 U8 T4", 5, 12, 5, "U4 U13 T15");
        Check.same("total(TOP), with a top before", more.total(VictimHeap.TOP), 15);
        Check.same("trim(15)", more.trim(15), 0);
        Check.same("trim(0) leaves 15", more.trim(0), 0);
    }

    private static void freeChunkBehind() {
        Check.sentence("Promise 5",
            "When a free chunk touches its end now, and both have s or more units together, "
            + "that one becomes part of it, and s units are cut from it");
        called(64, "U4 B6 U6", 1, 7, 1, "U8 B2 U6");
        called(64, "U4 B6 U6", 1, 8, 1, "U10 U6");
        called(64, "U4 B6 U6", 1, 9, 1, "U10 U6");
        called(64, "U4 B6 U6", 1, 10, 17, "B10 U6 U11 T5");
        called(64, "U4 R20 U8", 1, 21, 1, "U22 B2 U8");
        called(64, "U4 R20 U8", 1, 22, 1, "U24 U8");
        called(64, "U4 R20 U8", 1, 23, 1, "U24 U8");
        called(64, "U4 R20 U8", 1, 24, 33, "R24 U8 U25 T7");
        called(64, "U4 V20 U8", 1, 21, 1, "U22 V2 U8");
        called(64, "U4 V20 U8", 1, 22, 1, "U24 U8");
        called(64, "U4 V20 U8", 1, 23, 1, "U24 U8");
        called(64, "U4 V20 U8", 1, 24, 33, "V24 U8 U25 T7");
        called(16, "U4 T12", 1, 13, 1, "U14 T2");
        called(16, "U4 T12", 1, 14, 1, "U16");
        called(16, "U4 T12", 1, 15, 1, "U16");
        called(16, "U4 T12", 1, 16, 0, "U4 T12");
        called(64, "B10 U4 U18", 11, 5, 1, "U6 V8 U18");
        VictimHeap bin = called(64, "U4 B6 U6", 1, 9, 1, "U10 U6");
        Check.same("it lies in no bin", bin.count(6), 0);
    }

    private static void restIsWhatItWas() {
        Check.sentence("Promise 5", "the rest being what the free chunk was (the top, the victim)");
        called(64, "U4 V20 U8", 1, 7, 1, "U8 V16 U8");
        called(64, "U4 V20 U8", 1, 8, 1, "U9 V15 U8");
        called(64, "U4 T12", 1, 7, 1, "U8 T8");
        called(64, "U4 T28", 1, 7, 1, "U8 T24");
        VictimHeap victim = called(64, "U4 V20 U8", 1, 22, 1, "U24 U8");
        Check.same("no rest, no victim", victim.total(VictimHeap.VICTIM), 0);
        VictimHeap top = called(64, "U4 T12", 1, 14, 1, "U16");
        Check.same("no rest, no top", top.total(VictimHeap.TOP), 0);
        VictimHeap cut = called(64, "U4 V20 U8", 1, 7, 1, "U8 V16 U8");
        Check.same("the rest is cut as victim", cut.malloc(3), 9);
        Check.layout("the rest is cut as victim", cut, "U8 U4 V12 U8");
    }

    private static void restIntoStore() {
        Check.sentence("Promise 5", "or going into a store.");
        called(64, "U4 R20 U8", 1, 7, 1, "U8 R16 U8");
        called(64, "U4 R20 U8", 1, 8, 1, "U9 B15 U8");
        called(64, "U4 B15 U13", 1, 4, 1, "U5 B14 U13");
        VictimHeap other = called(64, "U4 B6 U2 V5 U2 B4 U9", 1, 5, 1, "U6 B4 U2 V5 U2 B4 U9");
        Check.same("the rest is the youngest", other.malloc(3), 7);
        Check.same("then the older one", other.malloc(3), 20);
        VictimHeap tree = called(64, "U4 R20 U2 R18 U4", 1, 5, 1, "U6 R18 U2 R18 U4");
        Check.same("the rest is the youngest in the tree", tree.malloc(17), 7);
    }

    private static void taken() {
        Check.sentence("Promise 5", "Otherwise s units are taken");
        called(64, "U4 U2 B9 U17", 1, 7, 7, "B4 U2 U9 U17");
        called(64, "U4 U2 B10 U16", 1, 7, 7, "B4 U2 U8 V2 U16");
        called(64, "U4 U2 V9 U17", 1, 4, 7, "B4 U2 U5 V4 U17");
        called(64, "U4 U2 T10", 1, 9, 7, "B4 U2 U10");
        called(64, "U4 U2 T10", 1, 10, 7, "B4 U2 U11 T15");
        called(64, "U4 U12", 1, 4, 17, "B4 U12 U5 T11");
    }

    private static void copied() {
        Check.sentence("Promise 5", "the data of the old chunk are copied");
        VictimHeap heap = Heaps.written(16, "U4 U2 B8 U2");
        Check.same("realloc(1, 7)", heap.realloc(1, 7), 7);
        Check.same("all numbers", Heaps.numbers(heap),
            "101 102 103 104 105 106 101 102 103 110 111 112 113 114 115");
        VictimHeap one = Heaps.written(16, "U2 U2 B3 U9");
        Check.same("realloc(1, 2)", one.realloc(1, 2), 5);
        Check.same("all numbers, one copied", Heaps.numbers(one),
            "101 102 103 104 101 106 107 108 109 110 111 112 113 114 115");
        VictimHeap stays = Heaps.written(16, "U4 B8 U4");
        Check.same("realloc(1, 7) where it lies", stays.realloc(1, 7), 1);
        Check.same("all numbers, none copied", Heaps.numbers(stays),
            "101 102 103 104 105 106 107 108 109 110 111 112 113 114 115");
    }

    private static void oldOneIsFreed() {
        Check.sentence("Promise 5", "and it is freed.");
        called(64, "B5 U4 U2 B9 U12", 6, 7, 12, "B9 U2 U9 U12");
        called(64, "U3 V5 U4 U2 B9 U9", 9, 7, 15, "U3 V9 U2 U9 U9");
        called(47, "R20 U2 U4 T6", 23, 16, 1, "U17 B3 U2 T10");
        called(64, "U8 V12 U4 U8", 21, 5, 9, "U8 U6 V10 U8");
        VictimHeap heap = called(64, "U4 U2 B9 U17", 1, 7, 7, "B4 U2 U9 U17");
        Check.same("the old pointer", heap.free(1), false);
        Check.same("the new pointer", heap.free(7), true);
    }

    private static void fails() {
        Check.sentence("Promise 5", "0 when it fails (then nothing is changed)");
        VictimHeap behindTop = Refusal.mixed();
        Check.same("realloc(73, 55)", behindTop.realloc(73, 55), 73);
        Check.same("END", behindTop.end(), 128);
        Refusal.same("realloc(73, 56)", Refusal::mixed, heap -> heap.realloc(73, 56), 0);
        Refusal.same("realloc(73, 511)", Refusal::mixed, heap -> heap.realloc(73, 511), 0);
        VictimHeap between = Refusal.mixed();
        Check.same("realloc(5, 50)", between.realloc(5, 50), 78);
        Refusal.same("realloc(5, 51)", Refusal::mixed, heap -> heap.realloc(5, 51), 0);
        VictimHeap beforeVictim = Refusal.mixed();
        Check.same("realloc(51, 50)", beforeVictim.realloc(51, 50), 78);
        Refusal.same("realloc(51, 51)", Refusal::mixed, heap -> heap.realloc(51, 51), 0);
        Refusal.same("at END", () -> Heaps.written(16, "B4 U12"), heap -> heap.realloc(5, 12), 0);
        Refusal.same("all is used", () -> Heaps.written(16, "U4 U12"), heap -> heap.realloc(1, 4), 0);
        // The old chunk would do with what lies before it, but it is not free when units are taken.
        Refusal.same("with itself", () -> Heaps.written(16, "B8 U4 U4"), heap -> heap.realloc(9, 8), 0);
    }

    private static void above511() {
        Check.sentence("Promise 5", "n is above 511");
        VictimHeap all = new VictimHeap(512);
        all.malloc(3);
        Check.same("realloc(1, 511)", all.realloc(1, 511), 1);
        Check.layout("realloc(1, 511)", all, "U512");
        Check.same("realloc(1, 512) of 512 units", all.realloc(1, 512), 0);
        Check.layout("realloc(1, 512) of 512 units", all, "U512");
        for (int n : new int[] {512, 513, 528, 1023, 65536, MAX - 1, MAX}) {
            Refusal.same("realloc(73, " + n + ")", Refusal::mixed, heap -> heap.realloc(73, n), 0);
            Refusal.same("realloc(5, " + n + ")", Refusal::mixed, heap -> heap.realloc(5, n), 0);
            Refusal.same("realloc(6, " + n + ")", Refusal::mixed, heap -> heap.realloc(6, n), 0);
        }
    }

    private static void noPointer() {
        Check.sentence("Promise 5", "or p is no pointer of a used chunk.");
        List<Integer> pointers = List.of(5, 11, 30, 49, 51, 71, 73);
        for (int p = -3; p <= 132; p++) {
            if (pointers.contains(p)) {
                VictimHeap heap = Refusal.mixed();
                Check.same("realloc(" + p + ", 1)", heap.realloc(p, 1), p);
            } else {
                refused(p);
            }
        }
        for (int p : new int[] {511, 512, 513, -512, MAX - 1, MAX, MIN, MIN + 1}) {
            refused(p);
        }
        for (int p : new int[] {-1, 0, 1, 2, 16, 17}) {
            Refusal.same("realloc(" + p + ", 3) of none", () -> new VictimHeap(64),
                heap -> heap.realloc(p, 3), 0);
        }
    }

    private static void refused(int p) {
        for (int n : new int[] {MIN, 1, 3, 20}) {
            Refusal.same("realloc(" + p + ", " + n + ")", Refusal::mixed,
                heap -> heap.realloc(p, n), 0);
        }
    }
}
