/**
 * The section "Terms" without the steps of TAKE: each sentence that names a boundary, on both sides
 * of it.
 */
public final class TermsEdgesTest {
    private static final int MIN = Integer.MIN_VALUE;
    private static final int MAX = Integer.MAX_VALUE;

    public static void main(String[] args) {
        Check.each(
            TermsEdgesTest::callsOfOneObject,
            TermsEdgesTest::unitsNeverWritten,
            TermsEdgesTest::endAndLimit,
            TermsEdgesTest::leastSize,
            TermsEdgesTest::ownUnitAndPointer,
            TermsEdgesTest::freeChunksNeverTouch,
            TermsEdgesTest::freeAtEnd,
            TermsEdgesTest::binsAndTree,
            TermsEdgesTest::youngerInBin,
            TermsEdgesTest::youngerInTree,
            TermsEdgesTest::restOfCut,
            TermsEdgesTest::touchingChunksBecomeOne,
            TermsEdgesTest::endsAtEnd,
            TermsEdgesTest::victimIsPart,
            TermsEdgesTest::goesIntoStore,
            TermsEdgesTest::partsAreGone,
            TermsEdgesTest::numbersAreKept,
            TermsEdgesTest::newUnitsAreZero,
            TermsEdgesTest::lostUnits,
            TermsEdgesTest::refusedCalls);
    }

    private static void callsOfOneObject() {
        Check.sentence("What it is",
            "An object is used for at most 512 calls after it has been made");
        VictimHeap taken = new VictimHeap(64);
        for (int call = 1; call <= 512; call += 2) {
            Check.same("call " + call, taken.malloc(20), 1);
            Check.same("call " + (call + 1), taken.free(1), true);
        }
        VictimHeap refused = new VictimHeap(64);
        for (int call = 1; call <= 510; call++) {
            Check.same("call " + call, refused.free(call), false);
        }
        Check.same("call 511", refused.malloc(3), 1);
        Check.same("call 512", refused.usable(1), 3);
    }

    private static void unitsNeverWritten() {
        Check.sentence("Terms", "each a number (an int, 0 where nothing was ever written)");
        VictimHeap heap = new VictimHeap(16);
        heap.malloc(15);
        Check.same("never written", Heaps.data(heap, 1), "0 0 0 0 0 0 0 0 0 0 0 0 0 0 0");
        heap.write(1, 0, MIN);
        heap.write(1, 6, -1);
        heap.write(1, 14, MAX);
        Check.same("written", Heaps.data(heap, 1), MIN + " 0 0 0 0 0 -1 0 0 0 0 0 0 0 " + MAX);
    }

    private static void endAndLimit() {
        Check.sentence("Terms", "END is 0 at first, and at most the LIMIT.");
        int[][] limitsAndEnds = {{16, 16}, {31, 16}, {32, 32}, {47, 32}, {48, 48}, {200, 192}};
        for (int[] pair : limitsAndEnds) {
            for (int way = 0; way < 4; way++) {
                VictimHeap heap = new VictimHeap(pair[0]);
                String what = "limit " + pair[0] + ", way " + way + ", END ";
                Check.same(what + "at first", heap.end(), 0);
                // 300 calls are more than any of these limits has room for.
                for (int call = 0; call < 300; call++) {
                    grow(heap, way, call);
                }
                Check.same(what + "at last", heap.end(), pair[1]);
            }
        }
    }

    private static void grow(VictimHeap heap, int way, int call) {
        if (way == 0 || call == 0) {
            heap.malloc(1);
        } else if (way == 1) {
            heap.calloc(1);
        } else if (way == 2) {
            heap.realloc(1, call);
        } else {
            heap.align(1, 2);
        }
    }

    private static void leastSize() {
        Check.sentence("Terms", "side by side without gaps, each of at least 2 units, its SIZE.");
        VictimHeap least = new VictimHeap(16);
        least.malloc(1);
        least.malloc(1);
        Check.layout("used chunks of 2", least, "U2 U2 T12");
        least.free(1);
        Check.layout("a free chunk of 2", least, "B2 U2 T12");
        VictimHeap two = new VictimHeap(16);
        two.malloc(13);
        Check.layout("2 are left", two, "U14 T2");
        VictimHeap one = new VictimHeap(16);
        one.malloc(14);
        Check.layout("1 would be left", one, "U16");
    }

    private static void ownUnitAndPointer() {
        Check.sentence("Terms",
            "The first unit of a used chunk is its own; the others are its DATA");
        VictimHeap heap = Heaps.of(16, "U4 U4 T8");
        Check.same("the first chunk is told by", heap.usable(1), 3);
        Check.same("the second chunk is told by", heap.usable(5), 3);
        Check.same("its first unit is no pointer", heap.usable(4), 0);
        Check.same("its second data unit is no pointer", heap.usable(6), 0);
        Check.same("its own unit is not written", heap.write(5, -1, 7), false);
        Check.same("its first data unit is written", heap.write(5, 0, 8), true);
        Check.same("its last data unit is written", heap.write(5, 2, 9), true);
        Check.same("the unit behind it is not written", heap.write(5, 3, 7), false);
        Check.same("units 1 to 15", Heaps.numbers(heap), "0 0 0 0 8 0 9 0 0 0 0 0 0 0 0");
    }

    private static void freeChunksNeverTouch() {
        Check.sentence("Terms", "Free chunks never touch.");
        VictimHeap heap = Heaps.of(16, "U4 U2 U4 U2 U4");
        heap.free(1);
        heap.free(7);
        Check.layout("a used one between", heap, "B4 U2 B4 U2 U4");
        heap.free(5);
        Check.layout("none between", heap, "B10 U2 U4");
        heap.free(13);
        Check.layout("a used one before the top", heap, "B10 U2 T4");
        heap.free(11);
        Check.layout("none before the top", heap, "T16");
    }

    private static void freeAtEnd() {
        Check.sentence("Terms", "A free chunk that ends at END is the TOP");
        VictimHeap last = Heaps.of(16, "U6 U8 U2");
        last.free(15);
        Check.layout("the last one", last, "U6 U8 T2");
        Check.same("the last one, total(TOP)", last.total(VictimHeap.TOP), 2);
        VictimHeap before = Heaps.of(16, "U6 U8 U2");
        before.free(7);
        Check.layout("the one before it", before, "U6 B8 U2");
        Check.same("the one before it, total(TOP)", before.total(VictimHeap.TOP), 0);
    }

    private static void binsAndTree() {
        Check.sentence("Terms",
            "those of size 2 .. 15 in the BIN of their size, those of 16 and more in the "
            + "TREE.");
        for (int size = 2; size <= 40; size++) {
            VictimHeap heap = Heaps.sideBySide(size, 2);
            heap.free(1);
            String what = "size " + size + ", ";
            Check.same(what + "state", heap.state(0),
                size <= 15 ? VictimHeap.BIN : VictimHeap.TREE);
            for (int k = 2; k <= 16; k++) {
                boolean there = size <= 15 ? k == size : k == 16;
                Check.same(what + "count(" + k + ")", heap.count(k), there ? 1 : 0);
            }
        }
    }

    private static void youngerInBin() {
        Check.sentence("Terms, a bin", "the one that came into it later is the YOUNGER one.");
        younger(5);
        younger(2);
        younger(15);
    }

    private static void youngerInTree() {
        Check.sentence("Terms, the tree", "the one that came into it later is the YOUNGER one.");
        younger(16);
        younger(30);
    }

    /** Three of a size are freed in every order: each time the last one freed is taken first. */
    private static void younger(int size) {
        int[] pointers = {1, size + 3, 2 * size + 5};
        int[][] orders = {{0, 1, 2}, {0, 2, 1}, {1, 0, 2}, {1, 2, 0}, {2, 0, 1}, {2, 1, 0}};
        for (int[] order : orders) {
            VictimHeap heap = Heaps.sideBySide(size, 2, size, 2, size, 2);
            for (int i : order) {
                heap.free(pointers[i]);
            }
            for (int i = 2; i >= 0; i--) {
                String what = "size " + size + ", freed as number " + i;
                Check.same(what, heap.malloc(size - 1), pointers[order[i]]);
            }
        }
        VictimHeap again = Heaps.sideBySide(size, 2, size, 2);
        again.free(pointers[0]);
        again.free(pointers[1]);
        again.malloc(size - 1);
        again.malloc(size - 1);
        again.free(pointers[1]);
        again.free(pointers[0]);
        Check.same("size " + size + ", came a second time", again.malloc(size - 1), pointers[0]);
    }

    private static void restOfCut() {
        Check.sentence("Terms, CUT",
            "when the rest would be less than 2 units, all of it is used and there is no "
            + "rest.");
        cut("the victim, small", "U2 V10 U2 T2", 3, 10, "U2 U8 V2 U2 T2", "U2 U10 U2 T2");
        cut("the victim, large", "U2 V20 U2 T8", 3, 20, "U2 U18 V2 U2 T8", "U2 U20 U2 T8");
        cut("the tree, large", "R20 U2 T10", 1, 20, "U18 B2 U2 T10", "U20 U2 T10");
        cut("the top", "U4 T12", 5, 12, "U4 U10 T2", "U4 U12");
        VictimHeap two = Heaps.of(32, "R16 U2 T14");
        Check.same("the tree, small, rest of 2", two.malloc(13), 1);
        Check.layout("the tree, small, rest of 2", two, "U14 V2 U2 T14");
        VictimHeap one = Heaps.of(32, "R16 U2 T14");
        Check.same("the tree, small, rest of 1", one.malloc(14), 1);
        Check.layout("the tree, small, rest of 1", one, "U16 U2 T14");
        VictimHeap bin = Heaps.of(32, "B7 U2 T7");
        Check.same("a bin above, rest of 2", bin.malloc(4), 1);
        Check.layout("a bin above, rest of 2", bin, "U5 V2 U2 T7");
    }

    /** Of a chunk of this size all but 2, all but 1 and all units are taken. */
    private static void cut(String what, String before, int pointer, int size, String restOfTwo,
            String noRest) {
        for (int rest = 0; rest <= 2; rest++) {
            VictimHeap heap = Heaps.of(32, before);
            String text = what + ", rest of " + rest;
            Check.same(text, heap.malloc(size - rest - 1), pointer);
            Check.layout(text, heap, rest == 2 ? restOfTwo : noRest);
        }
    }

    /** A chunk is freed in a heap of limit 64 that is laid as told, and how it lies then. */
    private static VictimHeap freed(String before, int p, String after) {
        VictimHeap heap = Heaps.of(64, before);
        Check.same("free(" + p + ") in " + before, heap.free(p), true);
        Check.layout("free(" + p + ") in " + before, heap, after);
        return heap;
    }

    private static void touchingChunksBecomeOne() {
        Check.sentence("Terms, FREE",
            "it and the free chunks that touch it become one free chunk.");
        freed("U2 U4 U10", 3, "U2 B4 U10");
        freed("B2 U4 U10", 3, "B6 U10");
        freed("U2 U4 B3 U7", 3, "U2 B7 U7");
        freed("B2 U4 B3 U7", 3, "B9 U7");
        freed("B2 U4 U2 B3 U5", 3, "B6 U2 B3 U5");
        freed("B3 U2 U4 B3 U4", 6, "B3 U2 B7 U4");
        freed("B8 U8 U16", 9, "R16 U16");
        freed("B7 U8 U17", 8, "B15 U17");
    }

    private static void endsAtEnd() {
        Check.sentence("Terms, FREE", "If that ends at END, it is the top");
        freed("U6 U10", 7, "U6 T10");
        freed("U6 U10", 1, "B6 U10");
        freed("U6 U8 U2", 7, "U6 B8 U2");
        freed("U6 U4 T6", 7, "U6 T10");
        freed("U6 U2 U2 T6", 7, "U6 B2 U2 T6");
        freed("U2 B4 U10", 7, "U2 T14");
        freed("U2 B4 U4 T6", 7, "U2 T14");
        freed("U16", 1, "T16");
        freed("U2 V6 U8", 9, "U2 T14");
        freed("U2 V6 U4 T4", 9, "U2 T14");
        VictimHeap heap = freed("U2 V6 U4 T4", 9, "U2 T14");
        Check.same("the victim is gone", heap.total(VictimHeap.VICTIM), 0);
        Check.same("the next one is from the top", heap.malloc(3), 3);
        Check.layout("the next one is from the top", heap, "U2 U4 T10");
    }

    private static void victimIsPart() {
        Check.sentence("Terms, FREE", "otherwise, if the victim is part of it, the victim");
        freed("U2 V6 U4 U4", 9, "U2 V10 U4");
        freed("U2 V6 U8", 1, "V8 U8");
        freed("U2 U4 V6 U4", 3, "U2 V10 U4");
        freed("B2 U4 V6 U4", 3, "V12 U4");
        freed("U2 V6 U4 B2 U2", 9, "U2 V12 U2");
        freed("U2 V14 U2 U14", 17, "U2 V16 U14");
        freed("U2 V6 U2 U4 U2", 11, "U2 V6 U2 B4 U2");
        freed("U4 U2 V6 U4", 1, "B4 U2 V6 U4");
        VictimHeap heap = freed("U2 V6 U4 U4", 9, "U2 V10 U4");
        Check.same("it is cut", heap.malloc(3), 3);
        Check.layout("its rest is the victim", heap, "U2 U4 V6 U4");
    }

    private static void goesIntoStore() {
        Check.sentence("Terms, FREE", "otherwise it goes into a store.");
        freed("U2 U14 U16", 3, "U2 B14 U16");
        freed("U2 U15 U15", 3, "U2 B15 U15");
        freed("U2 U16 U14", 3, "U2 R16 U14");
        freed("U2 V6 U2 U3 U3", 11, "U2 V6 U2 B3 U3");
        VictimHeap heap = Heaps.of(64, "U3 U2 U7 U2 U2");
        heap.free(6);
        heap.free(1);
        heap.free(4);
        Check.layout("a chunk of 12", heap, "B12 U2 U2");
        Check.same("bin 12", heap.count(12), 1);
        VictimHeap merged = Heaps.of(64, "U4 U5 U2 U9 U12");
        merged.free(1);
        merged.free(12);
        merged.free(5);
        Check.layout("two of 9", merged, "B9 U2 B9 U12");
        Check.same("the one that came last is the youngest", merged.malloc(8), 1);
        VictimHeap other = Heaps.of(64, "U4 U5 U2 U9 U12");
        other.free(1);
        other.free(5);
        other.free(12);
        Check.same("and so is another one that came last", other.malloc(8), 12);
    }

    private static void partsAreGone() {
        Check.sentence("Terms, FREE",
            "(Whatever becomes part of it does not lie in a store any more, and is not the "
            + "victim or top any more.)");
        VictimHeap bins = freed("B2 U4 B3 U7", 3, "B9 U7");
        Check.same("bin 2", bins.count(2), 0);
        Check.same("bin 3", bins.count(3), 0);
        Check.same("bin 9", bins.count(9), 1);
        Check.same("total(BIN)", bins.total(VictimHeap.BIN), 9);
        Check.same("no chunk where the part began", bins.state(6), -1);
        Check.same("a malloc for bin 3 cuts the 9", bins.malloc(2), 1);
        Check.layout("a malloc for bin 3 cuts the 9", bins, "U3 V6 U7");
        VictimHeap tree = freed("U2 U4 R20 U6", 3, "U2 R24 U6");
        Check.same("in the tree", tree.count(16), 1);
        Check.same("total(TREE)", tree.total(VictimHeap.TREE), 24);
        VictimHeap victim = freed("U2 V6 U8", 9, "U2 T14");
        Check.same("total(VICTIM)", victim.total(VictimHeap.VICTIM), 0);
        Check.same("total(TOP)", victim.total(VictimHeap.TOP), 14);
        VictimHeap top = freed("U6 U4 T6", 7, "U6 T10");
        Check.same("no top where the part began", top.state(10), -1);
        Check.same("one top", top.count(1), 2);
    }

    private static void numbersAreKept() {
        Check.sentence("Terms", "Units keep their numbers in all of this, if nothing else is said");
        VictimHeap heap = Heaps.written(16, "U2 B5 U2 V5 U2");
        heap.malloc(1);
        heap.malloc(2);
        heap.free(3);
        heap.realloc(15, 1);
        heap.align(1, 2);
        heap.trim(0);
        Check.same("all numbers", Heaps.numbers(heap),
            "101 102 103 104 105 106 107 108 109 110 111 112 113 114 115");
    }

    private static void newUnitsAreZero() {
        Check.sentence("Terms", "when END grows, the new ones are 0");
        VictimHeap taken = trimmed();
        taken.malloc(20);
        Check.same("END, by malloc", taken.end(), 32);
        Check.same("by malloc", Heaps.numbers(taken),
            "101 102 103 104 105 106 107 108 109 110 111 112 113 114 115"
            + " 0 0 0 0 0 0 0 0 0 0 0 0 0 0 0 0");
        VictimHeap longer = trimmed();
        longer.realloc(1, 17);
        Check.same("by realloc", Heaps.data(longer, 1),
            "101 102 103 104 105 106 107 108 109 110 111 112 113 114 115 0 0");
        VictimHeap aligned = trimmed();
        Check.same("align(10, 4)", aligned.align(10, 4), 8);
        Check.same("by align", Heaps.data(aligned, 8), "108 109 110 111 112 113 114 115 0 0");
    }

    /** "U4 T12", where END has been 48 and every unit had a number. */
    private static VictimHeap trimmed() {
        VictimHeap heap = Heaps.written(48, "U4 T44");
        Check.same("trim(12)", heap.trim(12), 32);
        return heap;
    }

    private static void lostUnits() {
        Check.sentence("Terms", "when it shrinks, those that are gone are lost.");
        VictimHeap heap = trimmed();
        Check.same("END", heap.end(), 16);
        Check.same("total(TOP)", heap.total(VictimHeap.TOP), 12);
        Check.same("no chunk begins at END", heap.size(16), -1);
        Check.same("all of the first step, none of the second", heap.malloc(30), 5);
        Check.same("the last unit that stayed", heap.read(5, 10), 115);
        Check.same("the first unit that was lost", heap.read(5, 11), 0);
        VictimHeap whole = Heaps.written(16, "T16");
        Check.same("trim(0)", whole.trim(0), 16);
        Check.same("malloc(15)", whole.malloc(15), 1);
        Check.same("all are lost", Heaps.data(whole, 1), "0 0 0 0 0 0 0 0 0 0 0 0 0 0 0");
    }

    private static void refusedCalls() {
        Check.sentence("Terms", "A call that is refused changes nothing.");
        Refusal.same("free", Refusal::mixed, heap -> heap.free(6), false);
        Refusal.same("write", Refusal::mixed, heap -> heap.write(5, 1, 9), false);
        Refusal.same("malloc", Refusal::mixed, heap -> heap.malloc(51), 0);
        Refusal.same("calloc", Refusal::mixed, heap -> heap.calloc(51), 0);
        Refusal.same("realloc", Refusal::mixed, heap -> heap.realloc(73, 56), 0);
        Refusal.same("align", Refusal::mixed, heap -> heap.align(33, 16), 0);
        Refusal.same("all of them", Refusal::mixed, heap -> "" + heap.free(6) + heap.write(5, 1, 9)
            + heap.malloc(51) + heap.calloc(51) + heap.realloc(73, 56) + heap.align(33, 16)
            + heap.trim(0), "falsefalse00000");
        VictimHeap other = Refusal.mixed();
        Check.same("a free that is not refused", other.free(5), true);
        Check.same("a write that is not refused", other.write(11, 0, 9), true);
        Check.layout("they change", other, "B10 U2 R17 U2 R17 U2 U3 V17 U2 U5 T3");
    }
}
