/** Promise 2: malloc, and with it the steps 1 to 9 by which units are taken. */
public final class MallocTest {
    public static void main(String[] args) {
        numbersOfUnits();
        wrongNumbers();
        youngestOfBin();
        nextBin();
        victimOfSmall();
        victimBeforeLargerBin();
        leastBinAbove();
        oldVictimIsYoungest();
        binBeforeTree();
        smallFromTree();
        smallFromTreeWithoutRest();
        victimBeforeTreeOfSixteen();
        fifteenAndSixteen();
        bestOfTree();
        restInTreeIsYoungest();
        treeAgainstVictim();
        largeFromVictim();
        top();
        topGrows();
        limit();
        numbersStay();
        Check.finish();
    }

    private static void numbersOfUnits() {
        VictimHeap heap = new VictimHeap(64);
        Check.same("first malloc(3)", heap.malloc(3), 1);
        Check.layout("malloc(3)", heap, "U4 T12");
        Check.same("malloc(1)", heap.malloc(1), 5);
        Check.same("malloc(0)", heap.malloc(0), 7);
        Check.same("malloc(-1)", heap.malloc(-1), 9);
        Check.same("malloc(MIN)", heap.malloc(Integer.MIN_VALUE), 11);
        Check.layout("n below 1", heap, "U4 U2 U2 U2 U2 T4");
    }

    private static void wrongNumbers() {
        VictimHeap heap = new VictimHeap(512);
        Check.same("malloc(512)", heap.malloc(512), 0);
        Check.same("malloc(MAX)", heap.malloc(Integer.MAX_VALUE), 0);
        Check.same("malloc(MAX - 1)", heap.malloc(Integer.MAX_VALUE - 1), 0);
        Check.layout("n above 511", heap, "");
        Check.same("malloc(511)", heap.malloc(511), 1);
        Check.layout("malloc(511)", heap, "U512");

        VictimHeap other = new VictimHeap(512);
        Check.same("malloc(510)", other.malloc(510), 1);
        Check.layout("malloc(510)", other, "U512");
        Check.same("usable after malloc(510)", other.usable(1), 511);
    }

    private static void youngestOfBin() {
        VictimHeap heap = Heaps.sideBySide(5, 2, 5, 2, 5, 2);
        heap.free(8);
        heap.free(15);
        heap.free(1);
        Check.layout("three in bin 5", heap, "B5 U2 B5 U2 B5 U2 T491");
        Check.same("step 1, youngest", heap.malloc(4), 1);
        Check.same("step 1, second", heap.malloc(4), 15);
        Check.same("step 1, oldest", heap.malloc(4), 8);
        Check.layout("bin 5 empty", heap, "U5 U2 U5 U2 U5 U2 T491");
    }

    private static void nextBin() {
        VictimHeap heap = Heaps.sideBySide(5, 2, 6, 2);
        heap.free(1);
        heap.free(8);
        Check.same("step 1 before 2", heap.malloc(4), 1);
        Check.same("step 2", heap.malloc(4), 8);
        Check.layout("step 2 uses all", heap, "U5 U2 U6 U2 T497");
        Check.same("usable after step 2", heap.usable(8), 5);

        VictimHeap last = Heaps.sideBySide(15, 2, 15, 2);
        last.free(1);
        last.free(18);
        Check.same("step 2, youngest of bin 15", last.malloc(13), 18);
        Check.same("step 1 of bin 15", last.malloc(14), 1);
        Check.layout("bin 15", last, "U15 U2 U15 U2 T478");

        VictimHeap before = Heaps.sideBySide(12, 2, 6, 2);
        before.free(1);
        before.malloc(2);
        before.free(15);
        Check.layout("a victim and bin 6", before, "U3 V9 U2 B6 U2 T490");
        Check.same("step 2 before 3", before.malloc(4), 15);
        Check.layout("step 2 before 3", before, "U3 V9 U2 U6 U2 T490");
    }

    private static void victimOfSmall() {
        VictimHeap heap = Heaps.sideBySide(12, 2);
        heap.free(1);
        heap.malloc(2);
        Check.layout("a victim of 9", heap, "U3 V9 U2 T498");
        Check.same("step 3", heap.malloc(4), 4);
        Check.layout("step 3", heap, "U3 U5 V4 U2 T498");
        Check.same("step 3, rest of 1", heap.malloc(2), 9);
        Check.layout("step 3, rest of 1", heap, "U3 U5 U4 U2 T498");
        Check.same("no victim", heap.total(3), 0);

        VictimHeap exact = Heaps.sideBySide(12, 2);
        exact.free(1);
        exact.malloc(2);
        Check.same("step 3, all of it", exact.malloc(8), 4);
        Check.layout("step 3, all of it", exact, "U3 U9 U2 T498");
        Check.same("the next one is from the top", exact.malloc(1), 15);
    }

    private static void victimBeforeLargerBin() {
        VictimHeap heap = Heaps.sideBySide(12, 2, 8, 2);
        heap.free(1);
        heap.malloc(2);
        heap.free(15);
        Check.layout("a victim of 9 and bin 8", heap, "U3 V9 U2 B8 U2 T488");
        Check.same("step 3 before 4", heap.malloc(4), 4);
        Check.layout("step 3 before 4", heap, "U3 U5 V4 U2 B8 U2 T488");
    }

    private static void leastBinAbove() {
        VictimHeap heap = Heaps.sideBySide(7, 2, 9, 2, 7, 2);
        heap.free(21);
        heap.free(1);
        heap.free(10);
        Check.same("step 4, youngest of the least", heap.malloc(3), 1);
        Check.layout("step 4, rest is the victim", heap, "U4 V3 U2 B9 U2 B7 U2 T483");
        Check.same("step 4, victim too small", heap.malloc(4), 21);
        Check.layout("step 4, old victim is stored", heap, "U4 B3 U2 B9 U2 U5 V2 U2 T483");
    }

    private static void oldVictimIsYoungest() {
        VictimHeap heap = Heaps.sideBySide(3, 2, 7, 2, 9, 2);
        heap.free(1);
        heap.free(6);
        Check.same("step 4 of bin 7", heap.malloc(3), 6);
        Check.layout("a victim of 3", heap, "B3 U2 U4 V3 U2 U9 U2 T487");
        heap.free(15);
        Check.same("step 4 of bin 9", heap.malloc(4), 15);
        Check.layout("two in bin 3", heap, "B3 U2 U4 B3 U2 U5 V4 U2 T487");
        Check.same("the old victim first", heap.malloc(2), 10);
        Check.same("then the other one", heap.malloc(2), 1);
    }

    private static void binBeforeTree() {
        VictimHeap heap = Heaps.sideBySide(20, 2, 9, 2);
        heap.free(23);
        heap.free(1);
        Check.same("step 4 before 5", heap.malloc(4), 23);
        Check.layout("step 4 before 5", heap, "R20 U2 U5 V4 U2 T479");
    }

    private static void smallFromTree() {
        VictimHeap heap = Heaps.sideBySide(20, 2, 18, 2, 18, 2, 30, 2);
        heap.free(43);
        heap.free(23);
        heap.free(63);
        heap.free(1);
        Check.same("step 5, youngest of the smallest", heap.malloc(4), 23);
        Check.layout("step 5", heap, "R20 U2 U5 V13 U2 R18 U2 R30 U2 T418");
        Check.same("step 5, victim too small", heap.malloc(14), 43);
        Check.layout("step 5, old victim is stored", heap, "R20 U2 U5 B13 U2 U15 V3 U2 R30 U2 T418");
    }

    private static void smallFromTreeWithoutRest() {
        VictimHeap heap = Heaps.sideBySide(16, 2, 12, 2);
        heap.free(19);
        heap.malloc(2);
        heap.free(1);
        Check.layout("a tree chunk of 16", heap, "R16 U2 U3 V9 U2 T480");
        Check.same("step 5 without a rest", heap.malloc(14), 1);
        Check.layout("no rest, so no other victim", heap, "U16 U2 U3 V9 U2 T480");
        Check.same("usable without a rest", heap.usable(1), 15);
    }

    private static void victimBeforeTreeOfSixteen() {
        VictimHeap heap = Heaps.sideBySide(16, 2, 20, 2);
        heap.free(19);
        heap.malloc(1);
        heap.free(1);
        Check.layout("victim of 18, tree chunk of 16", heap, "R16 U2 U2 V18 U2 T472");
        Check.same("no step 2 for 15", heap.malloc(14), 21);
        Check.layout("no step 2 for 15", heap, "R16 U2 U2 U15 V3 U2 T472");
    }

    private static void fifteenAndSixteen() {
        VictimHeap small = Heaps.sideBySide(20, 2);
        small.free(1);
        Check.same("step 5 for 15", small.malloc(14), 1);
        Check.layout("step 5 for 15", small, "U15 V5 U2 T490");

        VictimHeap large = Heaps.sideBySide(20, 2);
        large.free(1);
        Check.same("step 6 for 16", large.malloc(15), 1);
        Check.layout("step 6 for 16", large, "U16 B4 U2 T490");
    }

    private static void bestOfTree() {
        VictimHeap heap = Heaps.sideBySide(40, 2, 30, 2, 30, 2, 20, 2);
        heap.free(75);
        heap.free(43);
        heap.free(1);
        heap.free(107);
        Check.layout("four in the tree", heap, "R40 U2 R30 U2 R30 U2 R20 U2 T384");
        Check.same("step 6, youngest of the smallest", heap.malloc(24), 43);
        Check.layout("step 6, rest in a bin", heap, "R40 U2 U25 B5 U2 R30 U2 R20 U2 T384");
        Check.same("step 6, the other one", heap.malloc(21), 75);
        Check.same("step 6, all of it", heap.malloc(19), 107);
        Check.same("step 6, a larger one", heap.malloc(19), 1);
        Check.layout("step 6, rest in the tree", heap, "U20 R20 U2 U25 B5 U2 U22 B8 U2 U20 U2 T384");
        Check.same("step 6, rest of 1", heap.malloc(18), 21);
        Check.layout("step 6, rest of 1", heap, "U20 U20 U2 U25 B5 U2 U22 B8 U2 U20 U2 T384");
        Check.same("no victim came of it", heap.total(3), 0);
    }

    private static void restInTreeIsYoungest() {
        VictimHeap heap = Heaps.sideBySide(20, 2, 42, 2);
        heap.free(1);
        heap.free(23);
        Check.same("step 6 of 42", heap.malloc(21), 23);
        Check.layout("two of 20", heap, "R20 U2 U22 R20 U2 T446");
        Check.same("the rest first", heap.malloc(19), 45);
        Check.same("then the older one", heap.malloc(19), 1);
    }

    /** "U2 V28 U2 U28 U2 U27 U2 U29 U2 T390": one of the used ones is freed to stand against 28. */
    private static VictimHeap withVictimOf28() {
        VictimHeap heap = Heaps.sideBySide(30, 2, 28, 2, 27, 2, 29, 2);
        heap.free(1);
        heap.malloc(1);
        Check.layout("a victim of 28", heap, "U2 V28 U2 U28 U2 U27 U2 U29 U2 T390");
        return heap;
    }

    private static void treeAgainstVictim() {
        VictimHeap same = withVictimOf28();
        same.free(33);
        Check.same("step 7, tree chunk as large", same.malloc(19), 3);
        Check.layout("step 7, tree chunk as large", same, "U2 U20 V8 U2 R28 U2 U27 U2 U29 U2 T390");

        VictimHeap smaller = withVictimOf28();
        smaller.free(63);
        Check.same("step 6, tree chunk smaller", smaller.malloc(19), 63);
        Check.layout("step 6, tree chunk smaller", smaller, "U2 V28 U2 U28 U2 U20 B7 U2 U29 U2 T390");

        VictimHeap larger = withVictimOf28();
        larger.free(92);
        Check.same("step 7, tree chunk larger", larger.malloc(19), 3);
        Check.layout("step 7, tree chunk larger", larger, "U2 U20 V8 U2 U28 U2 U27 U2 R29 U2 T390");

        VictimHeap tooSmall = withVictimOf28();
        tooSmall.free(92);
        Check.same("step 6, victim too small", tooSmall.malloc(28), 92);
        Check.layout("step 6, victim too small", tooSmall, "U2 V28 U2 U28 U2 U27 U2 U29 U2 T390");

        VictimHeap bothTooSmall = withVictimOf28();
        bothTooSmall.free(33);
        Check.same("step 8, both too small", bothTooSmall.malloc(28), 123);
        Check.layout("step 8, both too small", bothTooSmall,
            "U2 V28 U2 R28 U2 U27 U2 U29 U2 U29 T361");
    }

    private static void largeFromVictim() {
        VictimHeap heap = withVictimOf28();
        Check.same("step 7, rest of 1", heap.malloc(26), 3);
        Check.layout("step 7, rest of 1", heap, "U2 U28 U2 U28 U2 U27 U2 U29 U2 T390");
        Check.same("step 7 ended the victim", heap.total(3), 0);

        VictimHeap exact = withVictimOf28();
        Check.same("step 7, all of it", exact.malloc(27), 3);
        Check.layout("step 7, all of it", exact, "U2 U28 U2 U28 U2 U27 U2 U29 U2 T390");
    }

    private static void top() {
        VictimHeap heap = new VictimHeap(64);
        heap.malloc(3);
        Check.same("step 8", heap.malloc(3), 5);
        Check.layout("step 8", heap, "U4 U4 T8");
        Check.same("step 8, rest of 2", heap.malloc(5), 9);
        Check.layout("step 8, rest of 2", heap, "U4 U4 U6 T2");
        Check.same("step 8, all of it", heap.malloc(1), 15);
        Check.layout("step 8, all of it", heap, "U4 U4 U6 U2");

        VictimHeap one = new VictimHeap(64);
        one.malloc(3);
        Check.same("step 8, rest of 1", one.malloc(10), 5);
        Check.layout("step 8, rest of 1", one, "U4 U12");
        Check.same("step 8, usable", one.usable(5), 11);
        Check.same("step 8, no top", one.total(4), 0);
        Check.same("step 9 behind it", one.malloc(1), 17);
        Check.layout("step 9 behind it", one, "U4 U12 U2 T14");
    }

    private static void topGrows() {
        grown("step 9, one step", 12, "U4 U13 T15");
        grown("step 9, several steps", 40, "U4 U41 T3");
        grown("step 9, rest of 1", 42, "U4 U44");
        grown("step 9, all of it", 43, "U4 U44");
        grown("step 9, one more", 44, "U4 U45 T15");

        VictimHeap without = new VictimHeap(64);
        without.malloc(15);
        Check.layout("no top", without, "U16");
        Check.same("step 9 without a top", without.malloc(3), 17);
        Check.layout("step 9 without a top", without, "U16 U4 T12");
    }

    private static void grown(String what, int n, String due) {
        VictimHeap heap = new VictimHeap(64);
        heap.malloc(3);
        Check.same(what, heap.malloc(n), 5);
        Check.layout(what, heap, due);
    }

    private static void limit() {
        VictimHeap heap = new VictimHeap(47);
        heap.malloc(3);
        Check.same("above the limit", heap.malloc(28), 0);
        Check.layout("above the limit", heap, "U4 T12");
        Check.same("up to the limit", heap.malloc(27), 5);
        Check.layout("up to the limit", heap, "U4 U28");
        Check.same("nothing left", heap.malloc(1), 0);
        Check.layout("nothing left", heap, "U4 U28");
    }

    private static void numbersStay() {
        VictimHeap heap = new VictimHeap(64);
        heap.malloc(4);
        Check.same("new units are 0", Heaps.data(heap, 1), "0 0 0 0");
        Heaps.fill(heap, 1, 10);
        heap.malloc(1);
        heap.free(1);
        heap.malloc(4);
        Check.same("numbers stay in a freed chunk", Heaps.data(heap, 1), "10 11 12 13");
    }
}
