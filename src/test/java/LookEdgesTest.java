import java.util.Map;
import java.util.TreeMap;

/** Promises 11 to 15: each sentence that names a boundary, on both sides of it. */
public final class LookEdgesTest {
    private static final int MIN = Integer.MIN_VALUE;
    private static final int MAX = Integer.MAX_VALUE;
    private static final int[] FAR = {511, 512, 513, -512, MAX - 1, MAX, MIN, MIN + 1};

    public static void main(String[] args) {
        Check.each(
            LookEdgesTest::sizes,
            LookEdgesTest::states,
            LookEdgesTest::bins,
            LookEdgesTest::tree,
            LookEdgesTest::usedAndAll,
            LookEdgesTest::otherCounts,
            LookEdgesTest::end,
            LookEdgesTest::victimAndTop,
            LookEdgesTest::noVictimNoTop,
            LookEdgesTest::sums,
            LookEdgesTest::otherTotals,
            LookEdgesTest::lookingChangesNothing);
    }

    /** By the first units of the chunks of Refusal.mixed: {size, state}. */
    private static Map<Integer, int[]> chunks() {
        Map<Integer, int[]> chunks = new TreeMap<>();
        chunks.put(0, new int[] {4, 1});
        chunks.put(4, new int[] {2, 0});
        chunks.put(6, new int[] {4, 1});
        chunks.put(10, new int[] {2, 0});
        chunks.put(12, new int[] {17, 2});
        chunks.put(29, new int[] {2, 0});
        chunks.put(31, new int[] {17, 2});
        chunks.put(48, new int[] {2, 0});
        chunks.put(50, new int[] {3, 0});
        chunks.put(53, new int[] {17, 3});
        chunks.put(70, new int[] {2, 0});
        chunks.put(72, new int[] {5, 0});
        chunks.put(77, new int[] {3, 4});
        return chunks;
    }

    private static void sizes() {
        Check.sentence("Promise 11",
            "The size of the chunk that begins at a unit; NONE when none does.");
        Map<Integer, int[]> chunks = chunks();
        VictimHeap heap = Refusal.mixed();
        for (int unit = -3; unit <= 132; unit++) {
            int due = chunks.containsKey(unit) ? chunks.get(unit)[0] : -1;
            Check.same("size(" + unit + ")", heap.size(unit), due);
        }
        for (int unit : FAR) {
            Check.same("size(" + unit + ")", heap.size(unit), -1);
        }
        Check.same("size(0) of none", new VictimHeap(64).size(0), -1);
        Check.same("size where a part began", merged().size(8), -1);
        Check.same("size of the whole", merged().size(0), 12);
        Check.same("size at END, where a chunk began", trimmed().size(16), -1);
        Check.same("size at the last chunk", trimmed().size(0), 16);
        VictimHeap whole = new VictimHeap(512);
        whole.malloc(511);
        Check.same("size of all", whole.size(0), 512);
        Check.same("size at the last unit", whole.size(511), -1);
    }

    private static void states() {
        Check.sentence("Promise 12",
            "The state of the chunk that begins at a unit (USED, ..); NONE when none does.");
        Map<Integer, int[]> chunks = chunks();
        VictimHeap heap = Refusal.mixed();
        for (int unit = -3; unit <= 132; unit++) {
            int due = chunks.containsKey(unit) ? chunks.get(unit)[1] : -1;
            Check.same("state(" + unit + ")", heap.state(unit), due);
        }
        for (int unit : FAR) {
            Check.same("state(" + unit + ")", heap.state(unit), -1);
        }
        Check.same("state(0) of none", new VictimHeap(64).state(0), -1);
        Check.same("state where a part began", merged().state(8), -1);
        Check.same("state of the whole", merged().state(0), VictimHeap.BIN);
        Check.same("state at END, where a chunk began", trimmed().state(16), -1);
        Check.same("state at the last chunk", trimmed().state(0), VictimHeap.USED);
    }

    private static VictimHeap merged() {
        VictimHeap heap = Heaps.of(32, "U8 U4 U20");
        heap.free(9);
        heap.free(1);
        return heap;
    }

    private static VictimHeap trimmed() {
        VictimHeap heap = Heaps.of(32, "U16 U16");
        heap.free(17);
        heap.trim(0);
        return heap;
    }

    private static void bins() {
        Check.sentence("Promise 13", "How many chunks lie in bin k (2 .. 15)");
        for (int k = 2; k <= 15; k++) {
            VictimHeap heap = Heaps.sideBySide(k, 2, k, 2, k, 2);
            for (int i = 0; i < 3; i++) {
                heap.free(1 + i * (k + 2));
                Check.same("count(" + k + ")", heap.count(k), i + 1);
                Check.same("count(" + (k + 1) + ") with bin " + k, heap.count(k + 1), 0);
                if (k > 2) {
                    Check.same("count(" + (k - 1) + ") with bin " + k, heap.count(k - 1), 0);
                }
            }
            heap.malloc(k - 1);
            Check.same("count(" + k + ") with one less", heap.count(k), 2);
        }
        VictimHeap others = Heaps.of(32, "U5 V5 U5 T17");
        Check.same("the victim and a used one lie in no bin", others.count(5), 0);
        Check.same("the top lies in no bin", Heaps.of(16, "U11 T5").count(5), 0);
    }

    private static void tree() {
        Check.sentence("Promise 13", "or for k = 16 in the tree");
        VictimHeap heap = Heaps.sideBySide(15, 2, 16, 2, 17, 2, 40, 2);
        heap.free(1);
        Check.same("a chunk of 15", heap.count(16), 0);
        heap.free(18);
        Check.same("a chunk of 16", heap.count(16), 1);
        heap.free(36);
        Check.same("a chunk of 17", heap.count(16), 2);
        heap.free(55);
        Check.same("a chunk of 40", heap.count(16), 3);
        Check.same("bin 15", heap.count(15), 1);
        VictimHeap others = Heaps.of(64, "U2 V20 U20 T22");
        Check.same("the victim, a used one and the top", others.count(16), 0);
    }

    private static void usedAndAll() {
        Check.sentence("Promise 13", "for k = 0 how many chunks are used, 1 how many there are");
        VictimHeap mixed = Refusal.mixed();
        Check.same("count(0)", mixed.count(0), 7);
        Check.same("count(1)", mixed.count(1), 13);
        VictimHeap none = new VictimHeap(64);
        Check.same("count(0) of none", none.count(0), 0);
        Check.same("count(1) of none", none.count(1), 0);
        VictimHeap free = Heaps.of(64, "T16");
        Check.same("count(0) of free ones", free.count(0), 0);
        Check.same("count(1) of free ones", free.count(1), 1);
        VictimHeap used = Heaps.of(64, "U6 U10");
        Check.same("count(0) of used ones", used.count(0), 2);
        Check.same("count(1) of used ones", used.count(1), 2);
    }

    private static void otherCounts() {
        Check.sentence("Promise 13", "NONE for other k.");
        int[] wrong = {-1, -2, 17, 18, 31, 32, 512, -16, MAX, MIN};
        VictimHeap mixed = Refusal.mixed();
        VictimHeap none = new VictimHeap(64);
        for (int k : wrong) {
            Check.same("count(" + k + ")", mixed.count(k), -1);
            Check.same("count(" + k + ") of none", none.count(k), -1);
        }
        VictimHeap large = Heaps.of(64, "R17 U15");
        Check.same("count(17) with a chunk of 17", large.count(17), -1);
        for (int k = 0; k <= 16; k++) {
            Check.same("count(" + k + ") of none", none.count(k), 0);
        }
    }

    private static void end() {
        Check.sentence("Promise 14", "END.");
        VictimHeap heap = new VictimHeap(512);
        Check.same("at first", heap.end(), 0);
        heap.malloc(15);
        Check.same("after 16 units", heap.end(), 16);
        heap.malloc(1);
        Check.same("after 18 units", heap.end(), 32);
        heap.free(17);
        Check.same("after free", heap.end(), 32);
        heap.trim(1);
        Check.same("after trim(1)", heap.end(), 32);
        heap.trim(0);
        Check.same("after trim(0)", heap.end(), 16);
        heap.realloc(1, 511);
        Check.same("after realloc", heap.end(), 512);
        heap.malloc(1);
        Check.same("full", heap.end(), 512);
        heap.free(1);
        heap.trim(0);
        Check.same("empty again", heap.end(), 0);
    }

    private static void victimAndTop() {
        Check.sentence("Promise 15", "The size of the victim (which VICTIM), of the top (TOP)");
        VictimHeap mixed = Refusal.mixed();
        Check.same("total(VICTIM)", mixed.total(VictimHeap.VICTIM), 17);
        Check.same("total(TOP)", mixed.total(VictimHeap.TOP), 3);
        VictimHeap least = Heaps.of(16, "U2 V2 U10 T2");
        Check.same("total(VICTIM), the least", least.total(VictimHeap.VICTIM), 2);
        Check.same("total(TOP), the least", least.total(VictimHeap.TOP), 2);
        VictimHeap all = Heaps.sideBySide();
        Check.same("total(TOP), all", all.total(VictimHeap.TOP), 512);
    }

    private static void noVictimNoTop() {
        Check.sentence("Promise 15", "0 when there is none");
        VictimHeap none = new VictimHeap(64);
        Check.same("total(VICTIM) of none", none.total(VictimHeap.VICTIM), 0);
        Check.same("total(TOP) of none", none.total(VictimHeap.TOP), 0);
        VictimHeap stored = Heaps.of(64, "B4 U2 R20 U6");
        Check.same("total(VICTIM) with stored ones", stored.total(VictimHeap.VICTIM), 0);
        Check.same("total(TOP) with stored ones", stored.total(VictimHeap.TOP), 0);
        VictimHeap top = Heaps.of(64, "U4 T12");
        Check.same("total(VICTIM) with a top", top.total(VictimHeap.VICTIM), 0);
        top.malloc(11);
        Check.same("total(TOP), all used", top.total(VictimHeap.TOP), 0);
        VictimHeap victim = Heaps.of(64, "U4 V8 U4");
        Check.same("total(TOP) with a victim", victim.total(VictimHeap.TOP), 0);
        victim.malloc(7);
        Check.same("total(VICTIM), all used", victim.total(VictimHeap.VICTIM), 0);
        VictimHeap gone = Heaps.of(64, "U16 T16");
        gone.trim(0);
        Check.same("total(TOP), trimmed", gone.total(VictimHeap.TOP), 0);
    }

    private static void sums() {
        Check.sentence("Promise 15",
            "of all used chunks together (USED), of all in the bins (BIN), in the tree (TREE)");
        VictimHeap mixed = Refusal.mixed();
        Check.same("total(USED)", mixed.total(VictimHeap.USED), 18);
        Check.same("total(BIN)", mixed.total(VictimHeap.BIN), 8);
        Check.same("total(TREE)", mixed.total(VictimHeap.TREE), 34);
        VictimHeap edge = Heaps.of(64, "B2 U2 B15 U2 R16 U2 U9");
        Check.same("total(BIN) of 2 and 15", edge.total(VictimHeap.BIN), 17);
        Check.same("total(TREE) of 16", edge.total(VictimHeap.TREE), 16);
        VictimHeap none = new VictimHeap(64);
        Check.same("total(USED) of none", none.total(VictimHeap.USED), 0);
        Check.same("total(BIN) of none", none.total(VictimHeap.BIN), 0);
        Check.same("total(TREE) of none", none.total(VictimHeap.TREE), 0);
        VictimHeap full = Heaps.sideBySide(512);
        Check.same("total(USED) of all", full.total(VictimHeap.USED), 512);
    }

    private static void otherTotals() {
        Check.sentence("Promise 15", "NONE for another one.");
        VictimHeap mixed = Refusal.mixed();
        VictimHeap none = new VictimHeap(64);
        for (int which : new int[] {-1, -2, 5, 6, 16, MAX, MIN}) {
            Check.same("total(" + which + ")", mixed.total(which), -1);
            Check.same("total(" + which + ") of none", none.total(which), -1);
        }
        for (int which = 0; which <= 4; which++) {
            Check.same("total(" + which + ") of none", none.total(which), 0);
        }
    }

    private static void lookingChangesNothing() {
        Check.sentence("Not promised, calls that look",
            "Nothing is promised beyond the answers and state changes described above");
        for (int number : new int[] {MIN, -1, 0, 1, 4, 5, 53, 54, 77, 80, 81, MAX}) {
            Refusal.same("usable and read of " + number, Refusal::mixed,
                heap -> "" + (heap.usable(number) + heap.read(number, 0) >= 0), true);
            Refusal.same("size, state, count and total of " + number, Refusal::mixed,
                heap -> "" + (heap.size(number) + heap.state(number) + heap.count(number)
                    + heap.total(number) + heap.end() >= -4), true);
        }
    }
}
