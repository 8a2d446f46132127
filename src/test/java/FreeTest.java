/** Promise 4: free, and with it what becomes of a chunk that is freed. */
public final class FreeTest {
    public static void main(String[] args) {
        wrongPointers();
        stores();
        withStored();
        withVictim();
        withVictimAndStored();
        withTop();
        atEnd();
        mergedIsYoungest();
        Check.finish();
    }

    private static void wrongPointers() {
        VictimHeap heap = Heaps.sideBySide(4, 5, 6, 2);
        heap.free(5);
        String layout = "U4 B5 U6 U2 T495";
        Check.layout("one free", heap, layout);
        int[] wrong = {0, 2, 3, 4, 5, 6, 9, 11, 17, 18, 19, 511, 512, 513, -1, -2,
            Integer.MAX_VALUE, Integer.MIN_VALUE};
        for (int p : wrong) {
            Check.same("free(" + p + ")", heap.free(p), false);
        }
        Check.layout("all refused", heap, layout);
        Check.same("free(1)", heap.free(1), true);
        Check.same("free(1) again", heap.free(1), false);
        Check.layout("free(1)", heap, "B9 U6 U2 T495");
    }

    private static void stores() {
        VictimHeap heap = Heaps.sideBySide(2, 2, 15, 2, 16, 2);
        heap.free(1);
        heap.free(5);
        heap.free(22);
        Check.layout("bins and tree", heap, "B2 U2 B15 U2 R16 U2 T473");
        Check.same("bin 2", heap.count(2), 1);
        Check.same("bin 15", heap.count(15), 1);
        Check.same("tree", heap.count(16), 1);
    }

    private static void withStored() {
        VictimHeap heap = Heaps.sideBySide(4, 5, 6, 2);
        heap.free(5);
        heap.free(1);
        Check.layout("with the one behind", heap, "B9 U6 U2 T495");
        Check.same("bin 5 after it", heap.count(5), 0);
        heap.free(10);
        Check.layout("with the one before", heap, "B15 U2 T495");
        Check.same("bin 9 after it", heap.count(9), 0);

        VictimHeap both = Heaps.sideBySide(4, 5, 6, 2);
        both.free(1);
        both.free(10);
        Check.layout("one between", both, "B4 U5 B6 U2 T495");
        both.free(5);
        Check.layout("with both", both, "B15 U2 T495");
        Check.same("size inside", both.size(4), -1);
        Check.same("malloc of all", both.malloc(14), 1);

        VictimHeap tree = Heaps.sideBySide(8, 8, 2);
        tree.free(1);
        tree.free(9);
        Check.layout("bin to tree", tree, "R16 U2 T494");
    }

    private static void withVictim() {
        VictimHeap heap = Heaps.sideBySide(4, 12, 5, 2);
        heap.free(5);
        heap.malloc(2);
        Check.layout("a victim", heap, "U4 U3 V9 U5 U2 T489");
        heap.free(17);
        Check.layout("victim before", heap, "U4 U3 V14 U2 T489");
        heap.free(5);
        Check.layout("victim behind", heap, "U4 V17 U2 T489");
        heap.free(1);
        Check.layout("victim behind, first chunk", heap, "V21 U2 T489");
        Check.same("total of the victim", heap.total(3), 21);
        Check.same("still cut as victim", heap.malloc(3), 1);
        Check.layout("still cut as victim", heap, "U4 V17 U2 T489");
    }

    private static void withVictimAndStored() {
        VictimHeap heap = Heaps.sideBySide(6, 3, 12, 2);
        heap.free(10);
        heap.malloc(2);
        heap.free(1);
        heap.free(7);
        Check.layout("stored and victim", heap, "B9 U3 V9 U2 T489");
        heap.free(10);
        Check.layout("stored before, victim behind", heap, "V21 U2 T489");
        Check.same("bin 9", heap.count(9), 0);

        VictimHeap other = Heaps.sideBySide(12, 3, 6, 2);
        other.free(1);
        other.malloc(2);
        other.free(16);
        Check.layout("victim and stored", other, "U3 V9 U3 B6 U2 T489");
        other.free(13);
        Check.layout("victim before, stored behind", other, "U3 V18 U2 T489");
        Check.same("bin 6", other.count(6), 0);
    }

    private static void withTop() {
        VictimHeap stored = Heaps.sideBySide(4, 5, 6);
        stored.free(5);
        stored.free(10);
        Check.layout("stored before, top behind", stored, "U4 T508");
        Check.same("bin 5", stored.count(5), 0);

        VictimHeap victim = Heaps.sideBySide(12, 6);
        victim.free(1);
        victim.malloc(2);
        Check.layout("a victim near the top", victim, "U3 V9 U6 T494");
        victim.free(13);
        Check.layout("victim before, top behind", victim, "U3 T509");
        Check.same("no victim", victim.total(3), 0);
        Check.same("used from the top", victim.malloc(4), 4);
        Check.layout("used from the top", victim, "U3 U5 T504");
    }

    private static void atEnd() {
        VictimHeap heap = new VictimHeap(32);
        heap.malloc(7);
        heap.malloc(7);
        Check.layout("no top", heap, "U8 U8");
        heap.free(9);
        Check.layout("the last one is the top", heap, "U8 T8");
        heap.free(1);
        Check.layout("all is the top", heap, "T16");

        VictimHeap other = new VictimHeap(32);
        other.malloc(7);
        other.malloc(7);
        other.free(1);
        Check.layout("the first one is stored", other, "B8 U8");
        other.free(9);
        Check.layout("all is the top again", other, "T16");
        Check.same("bin 8", other.count(8), 0);

        VictimHeap victim = new VictimHeap(32);
        victim.malloc(11);
        victim.malloc(3);
        victim.free(1);
        victim.malloc(2);
        Check.layout("victim before the end", victim, "U3 V9 U4");
        victim.free(13);
        Check.layout("a top with the victim", victim, "U3 T13");
        Check.same("no victim at the end", victim.total(3), 0);
    }

    private static void mergedIsYoungest() {
        VictimHeap heap = Heaps.sideBySide(4, 5, 2, 9, 2);
        heap.free(1);
        heap.free(12);
        heap.free(5);
        Check.layout("two in bin 9", heap, "B9 U2 B9 U2 T490");
        Check.same("the merged one first", heap.malloc(8), 1);
        Check.same("then the older one", heap.malloc(8), 12);
    }
}
