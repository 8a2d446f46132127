/** The nine steps of TAKE: each sentence that names a boundary, on both sides of it. */
public final class TakeEdgesTest {
    public static void main(String[] args) {
        Check.each(
            TakeEdgesTest::belowSixteen,
            TakeEdgesTest::stepOne,
            TakeEdgesTest::stepTwo,
            TakeEdgesTest::stepThree,
            TakeEdgesTest::stepFour,
            TakeEdgesTest::stepFive,
            TakeEdgesTest::restIsVictim,
            TakeEdgesTest::ifThereIsARest,
            TakeEdgesTest::oldVictimIsStored,
            TakeEdgesTest::fromSixteenOn,
            TakeEdgesTest::smallestOfTree,
            TakeEdgesTest::stepSix,
            TakeEdgesTest::restOfStepSix,
            TakeEdgesTest::stepSeven,
            TakeEdgesTest::stepEight,
            TakeEdgesTest::restOfOneOfTop,
            TakeEdgesTest::stepNine,
            TakeEdgesTest::withoutTop,
            TakeEdgesTest::notAboveLimit,
            TakeEdgesTest::fails);
    }

    /** A malloc where END and the limit are 512, the layouts told without the top. */
    private static VictimHeap taken(String before, int n, int pointer, String after) {
        VictimHeap heap = Heaps.of(512, Heaps.upTo512(before));
        Check.same("malloc(" + n + ") in " + before, heap.malloc(n), pointer);
        Check.layout("malloc(" + n + ") in " + before, heap, Heaps.upTo512(after));
        return heap;
    }

    /** A malloc where END may grow to this limit. */
    private static VictimHeap takenBelow(int limit, String before, int n, int pointer, String after) {
        VictimHeap heap = Heaps.of(limit, before);
        Check.same("malloc(" + n + ") in " + before, heap.malloc(n), pointer);
        Check.layout("malloc(" + n + ") in " + before, heap, after);
        return heap;
    }

    private static void belowSixteen() {
        Check.sentence("Terms, TAKE", "for s below 16");
        taken("R20 U2", 13, 1, "U14 V6 U2");
        taken("R20 U2", 14, 1, "U15 V5 U2");
        taken("R20 U2", 15, 1, "U16 B4 U2");
        taken("U2 V17 U2 R16 U2", 14, 3, "U2 U15 V2 U2 R16 U2");
        taken("U2 V17 U2 R16 U2", 15, 22, "U2 V17 U2 U16 U2");
    }

    private static void stepOne() {
        Check.sentence("Terms, TAKE", "1. the youngest chunk of bin s is used.");
        taken("B4 U2 B5 U2 B6 U2", 4, 7, "B4 U2 U5 U2 B6 U2");
        taken("B6 U2 B5 U2 B4 U2", 4, 9, "B6 U2 U5 U2 B4 U2");
        taken("B4 U2", 4, 7, "B4 U2 U5");
        taken("B2 U2 B3 U2", 1, 1, "U2 U2 B3 U2");
        taken("U2 V9 U2 B2 U2", 1, 14, "U2 V9 U2 U2 U2");
        taken("B15 U2 R16 U2", 14, 1, "U15 U2 R16 U2");
        taken("U2 V20 U2 B15 U2", 14, 25, "U2 V20 U2 U15 U2");
        taken("B5 U2 B5 U2", 4, 8, "B5 U2 U5 U2");
        VictimHeap heap = Heaps.sideBySide(5, 2, 5, 2);
        heap.free(8);
        heap.free(1);
        Check.same("the youngest one is the first", heap.malloc(4), 1);
    }

    private static void stepTwo() {
        Check.sentence("Terms, TAKE", "2. The youngest of bin s + 1 is used (for s below 15).");
        taken("U2 V9 U2 B6 U2 B7 U2", 4, 14, "U2 V9 U2 U6 U2 B7 U2");
        taken("U2 V9 U2 B7 U2", 4, 3, "U2 U5 V4 U2 B7 U2");
        taken("B3 U2", 1, 1, "U3 U2");
        taken("U2 V20 U2 B14 U2", 12, 25, "U2 V20 U2 U14 U2");
        taken("U2 V20 U2 B15 U2", 13, 25, "U2 V20 U2 U15 U2");
        taken("U2 V20 U2 R16 U2", 14, 3, "U2 U15 V5 U2 R16 U2");
        taken("B6 U2 B6 U2", 4, 9, "B6 U2 U6 U2");
        VictimHeap heap = Heaps.sideBySide(6, 2, 6, 2);
        heap.free(9);
        heap.free(1);
        Check.same("the youngest one is the first", heap.malloc(4), 1);
    }

    private static void stepThree() {
        Check.sentence("Terms, TAKE",
            "3. s units are cut from the victim, if it has as many; the rest is the victim.");
        taken("U2 V9 U2 B12 U2", 6, 3, "U2 U7 V2 U2 B12 U2");
        taken("U2 V9 U2 B12 U2", 7, 3, "U2 U9 U2 B12 U2");
        taken("U2 V9 U2 B12 U2", 8, 3, "U2 U9 U2 B12 U2");
        taken("U2 V9 U2 B12 U2", 9, 14, "U2 B9 U2 U10 V2 U2");
        taken("U2 V9 U2", 9, 14, "U2 V9 U2 U10");
        taken("U2 V15 U2 R16 U2", 14, 3, "U2 U15 U2 R16 U2");
        taken("U2 V14 U2", 14, 19, "U2 V14 U2 U15");
        VictimHeap gone = taken("U2 V9 U2", 8, 3, "U2 U9 U2");
        Check.same("no rest, no victim", gone.total(VictimHeap.VICTIM), 0);
        Check.same("the next one is from the top", gone.malloc(1), 14);
    }

    private static void stepFour() {
        Check.sentence("Terms, TAKE",
            "4. They are cut from the youngest chunk of the least bin above that has any");
        taken("B12 U2 B7 U2 R20 U2", 4, 15, "B12 U2 U5 V2 U2 R20 U2");
        taken("B4 U2 B9 U2", 4, 7, "B4 U2 U5 V4 U2");
        taken("B4 U2", 1, 1, "U2 V2 U2");
        taken("B15 U2 R16 U2", 1, 1, "U2 V13 U2 R16 U2");
        taken("B15 U2 R16 U2", 12, 1, "U13 V2 U2 R16 U2");
        taken("B9 U2 B9 U2", 4, 12, "B9 U2 U5 V4 U2");
        VictimHeap heap = Heaps.sideBySide(9, 2, 9, 2);
        heap.free(12);
        heap.free(1);
        Check.same("the youngest one is the first", heap.malloc(4), 1);
    }

    private static void stepFive() {
        Check.sentence("Terms, TAKE", "5. or from the youngest of the smallest chunks in the tree");
        taken("R18 U2 R17 U2 R19 U2", 4, 21, "R18 U2 U5 V12 U2 R19 U2");
        taken("R17 U2 R16 U2", 1, 20, "R17 U2 U2 V14 U2");
        taken("B4 U2 R16 U2", 4, 7, "B4 U2 U5 V11 U2");
        taken("B4 U2", 4, 7, "B4 U2 U5");
        taken("R17 U2 R17 U2", 4, 20, "R17 U2 U5 V12 U2");
        VictimHeap heap = Heaps.sideBySide(17, 2, 17, 2);
        heap.free(20);
        heap.free(1);
        Check.same("the youngest one is the first", heap.malloc(4), 1);
    }

    private static void restIsVictim() {
        Check.sentence("Terms, TAKE", "in both cases the rest, if there is one, is the victim");
        taken("B12 U2", 3, 1, "U4 V8 U2");
        taken("B6 U2", 3, 1, "U4 V2 U2");
        taken("R20 U2", 4, 1, "U5 V15 U2");
        taken("R20 U2", 3, 1, "U4 V16 U2");
        VictimHeap heap = taken("R20 U2", 1, 1, "U2 V18 U2");
        Check.same("total(VICTIM)", heap.total(VictimHeap.VICTIM), 18);
        Check.same("it is cut again", heap.malloc(1), 3);
        Check.same("and again", heap.malloc(1), 5);
        Check.layout("and again", heap, Heaps.upTo512("U2 U2 U2 V14 U2"));
    }

    private static void ifThereIsARest() {
        Check.sentence("Terms, TAKE, no rest", "the rest, if there is one, is the victim");
        VictimHeap none = taken("R16 U2", 14, 1, "U16 U2");
        Check.same("no rest, no victim", none.total(VictimHeap.VICTIM), 0);
        Check.same("no rest, usable", none.usable(1), 15);
        taken("R16 U2", 13, 1, "U14 V2 U2");
        taken("R17 U2", 14, 1, "U15 V2 U2");
        // README.md tells how this is read: without a rest the victim that there was stays.
        VictimHeap stays = taken("U2 V9 U2 R16 U2", 14, 14, "U2 V9 U2 U16 U2");
        Check.same("it is still cut", stays.malloc(3), 3);
        Check.layout("it is still cut", stays, Heaps.upTo512("U2 U4 V5 U2 U16 U2"));
    }

    private static void oldVictimIsStored() {
        Check.sentence("Terms, TAKE", "and the victim that there was goes into a store.");
        taken("U2 V3 U2 B9 U2", 4, 8, "U2 B3 U2 U5 V4 U2");
        taken("U2 V4 U2 B7 U2", 4, 9, "U2 B4 U2 U5 V2 U2");
        taken("U2 V3 U2 R20 U2", 4, 8, "U2 B3 U2 U5 V15 U2");
        taken("U2 V14 U2 R20 U2", 14, 19, "U2 B14 U2 U15 V5 U2");
        taken("U2 V14 U2 R17 U2", 14, 19, "U2 B14 U2 U15 V2 U2");
        VictimHeap heap = taken("U2 V4 U2 B4 U2 B9 U2", 4, 15, "U2 B4 U2 B4 U2 U5 V4 U2");
        Check.same("bin 4", heap.count(4), 2);
        Check.same("it is the youngest there", heap.malloc(3), 3);
        Check.same("the other one is older", heap.malloc(3), 9);
    }

    private static void fromSixteenOn() {
        Check.sentence("Terms, TAKE", "For s from 16 on");
        taken("U2 V20 U2 R18 U2", 14, 3, "U2 U15 V5 U2 R18 U2");
        taken("U2 V20 U2 R18 U2", 15, 25, "U2 V20 U2 U16 B2 U2");
        taken("U2 V9 U2 R40 U2", 14, 14, "U2 B9 U2 U15 V25 U2");
        taken("U2 V9 U2 R40 U2", 15, 14, "U2 V9 U2 U16 R24 U2");
        taken("B15 U2", 15, 18, "B15 U2 U16");
    }

    private static void smallestOfTree() {
        Check.sentence("Terms, TAKE",
            "of the chunks in the tree of size s or more the smallest ones are looked at, and "
            + "the youngest of these.");
        String tree = "R21 U2 R19 U2 R20 U2";
        taken(tree, 17, 24, "R21 U2 U19 U2 R20 U2");
        taken(tree, 18, 24, "R21 U2 U19 U2 R20 U2");
        taken(tree, 19, 45, "R21 U2 R19 U2 U20 U2");
        taken(tree, 20, 1, "U21 U2 R19 U2 R20 U2");
        taken(tree, 21, 67, "R21 U2 R19 U2 R20 U2 U22");
        taken("R16 U2", 15, 1, "U16 U2");
        taken("R20 U2 R20 U2 R19 U2", 19, 23, "R20 U2 U20 U2 R19 U2");
        VictimHeap heap = Heaps.sideBySide(20, 2, 20, 2);
        heap.free(23);
        heap.free(1);
        Check.same("the youngest one is the first", heap.malloc(19), 1);
    }

    private static void stepSix() {
        Check.sentence("Terms, TAKE",
            "6. If there is one, and there is no victim of size s or more, or it is smaller "
            + "than the victim, s units are cut from it");
        taken("R25 U2", 19, 1, "U20 B5 U2");
        taken("U2 V19 U2 R25 U2", 19, 24, "U2 V19 U2 U20 B5 U2");
        taken("U2 V20 U2 R25 U2", 19, 3, "U2 U20 U2 R25 U2");
        taken("U2 V25 U2 R26 U2", 19, 3, "U2 U20 V5 U2 R26 U2");
        taken("U2 V25 U2 R25 U2", 19, 3, "U2 U20 V5 U2 R25 U2");
        taken("U2 V25 U2 R24 U2", 19, 30, "U2 V25 U2 U20 B4 U2");
        taken("U2 V25 U2 R20 U2", 19, 30, "U2 V25 U2 U20 U2");
        taken("U2 V25 U2 R19 U2", 19, 3, "U2 U20 V5 U2 R19 U2");
    }

    private static void restOfStepSix() {
        Check.sentence("Terms, TAKE, step 6", "the rest goes into a store.");
        taken("R22 U2", 19, 1, "U20 B2 U2");
        taken("R35 U2", 19, 1, "U20 B15 U2");
        taken("R36 U2", 19, 1, "U20 R16 U2");
        VictimHeap bin = taken("B5 U2 R25 U2", 19, 8, "B5 U2 U20 B5 U2");
        Check.same("no victim", bin.total(VictimHeap.VICTIM), 0);
        Check.same("the rest is the youngest in its bin", bin.malloc(4), 28);
        VictimHeap tree = taken("R17 U2 R37 U2", 19, 20, "R17 U2 U20 R17 U2");
        Check.same("the rest is the youngest in the tree", tree.malloc(16), 40);
    }

    private static void stepSeven() {
        Check.sentence("Terms, TAKE",
            "7. They are cut from the victim, if it has as many; the rest is the victim.");
        taken("U2 V20 U2", 15, 3, "U2 U16 V4 U2");
        taken("U2 V20 U2", 17, 3, "U2 U18 V2 U2");
        taken("U2 V20 U2", 18, 3, "U2 U20 U2");
        taken("U2 V20 U2", 19, 3, "U2 U20 U2");
        taken("U2 V20 U2", 20, 25, "U2 V20 U2 U21");
        taken("U2 V40 U2", 19, 3, "U2 U20 V20 U2");
        VictimHeap gone = taken("U2 V20 U2", 19, 3, "U2 U20 U2");
        Check.same("no rest, no victim", gone.total(VictimHeap.VICTIM), 0);
    }

    private static void stepEight() {
        Check.sentence("Terms, TAKE",
            "8. They are cut from the top, if it has as many units; the rest, 2 or more, is "
            + "the top.");
        takenBelow(64, "U4 T12", 9, 5, "U4 U10 T2");
        takenBelow(64, "U4 T12", 11, 5, "U4 U12");
        takenBelow(64, "U4 T12", 12, 5, "U4 U13 T15");
        takenBelow(64, "U12 T20", 17, 13, "U12 U18 T2");
        takenBelow(64, "U12 T20", 19, 13, "U12 U20");
        takenBelow(64, "U12 T20", 20, 13, "U12 U21 T15");
        takenBelow(64, "U14 T2", 1, 15, "U14 U2");
        takenBelow(16, "T16", 15, 1, "U16");
        takenBelow(64, "B10 U2 T4", 3, 1, "U4 V6 U2 T4");
        takenBelow(64, "U2 V8 U2 T4", 3, 3, "U2 U4 V4 U2 T4");
        takenBelow(64, "R20 U2 T26", 19, 1, "U20 U2 T26");
    }

    private static void restOfOneOfTop() {
        Check.sentence("Terms, TAKE", "(A rest of one unit is used, too: then there is no top.)");
        VictimHeap eight = takenBelow(64, "U4 T12", 10, 5, "U4 U12");
        Check.same("step 8, usable", eight.usable(5), 11);
        Check.same("step 8, total(TOP)", eight.total(VictimHeap.TOP), 0);
        Check.same("step 8, nothing to trim", eight.trim(0), 0);
        Check.same("step 8, the next one is behind", eight.malloc(1), 17);
        VictimHeap nine = takenBelow(64, "U4 T12", 26, 5, "U4 U28");
        Check.same("step 9, usable", nine.usable(5), 27);
        Check.same("step 9, total(TOP)", nine.total(VictimHeap.TOP), 0);
        VictimHeap two = takenBelow(64, "U4 T12", 25, 5, "U4 U26 T2");
        Check.same("step 9, rest of two", two.total(VictimHeap.TOP), 2);
    }

    private static void stepNine() {
        Check.sentence("Terms, TAKE",
            "9. END grows by the least multiple of 16 with which the top has as many");
        takenBelow(64, "U4 T12", 11, 5, "U4 U12");
        takenBelow(64, "U4 T12", 12, 5, "U4 U13 T15");
        takenBelow(64, "U4 T12", 27, 5, "U4 U28");
        takenBelow(64, "U4 T12", 28, 5, "U4 U29 T15");
        takenBelow(64, "U4 T12", 43, 5, "U4 U44");
        takenBelow(64, "U4 T12", 44, 5, "U4 U45 T15");
        takenBelow(64, "U14 T2", 2, 15, "U14 U3 T15");
        takenBelow(64, "U14 T2", 17, 15, "U14 U18");
        takenBelow(64, "B4 U2 V5 U3 T2", 17, 15, "B4 U2 V5 U3 U18");
    }

    private static void withoutTop() {
        Check.sentence("Terms, TAKE", "(without a top: the new units are the top)");
        takenBelow(64, "U16", 1, 17, "U16 U2 T14");
        takenBelow(64, "U16", 13, 17, "U16 U14 T2");
        takenBelow(64, "U16", 15, 17, "U16 U16");
        takenBelow(64, "U16", 16, 17, "U16 U17 T15");
        takenBelow(64, "U16", 31, 17, "U16 U32");
        takenBelow(64, "B6 U10", 7, 17, "B6 U10 U8 T8");
        for (int n : new int[] {1, 15, 16, 31, 32}) {
            VictimHeap heap = new VictimHeap(64);
            Check.same("malloc(" + n + ") at first", heap.malloc(n), 1);
            Check.same("END then", heap.end(), n <= 15 ? 16 : n <= 31 ? 32 : 48);
        }
    }

    private static void notAboveLimit() {
        Check.sentence("Terms, TAKE", "if it is not above the limit then");
        takenBelow(48, "U4 T12", 43, 5, "U4 U44");
        takenBelow(48, "U4 T12", 44, 0, "U4 T12");
        takenBelow(47, "U4 T12", 27, 5, "U4 U28");
        takenBelow(47, "U4 T12", 28, 0, "U4 T12");
        takenBelow(49, "U4 T12", 43, 5, "U4 U44");
        takenBelow(31, "U16", 1, 0, "U16");
        takenBelow(32, "U16", 1, 17, "U16 U2 T14");
        takenBelow(16, "U4 T12", 11, 5, "U4 U12");
        takenBelow(16, "U4 T12", 12, 0, "U4 T12");
    }

    private static void fails() {
        Check.sentence("Terms, TAKE", "Otherwise it fails.");
        VictimHeap last = Refusal.mixed();
        Check.same("the most that there is", last.malloc(50), 78);
        Check.same("END then", last.end(), 128);
        Refusal.same("one more", Refusal::mixed, heap -> heap.malloc(51), 0);
        Refusal.same("many more", Refusal::mixed, heap -> heap.malloc(511), 0);
        Refusal.same("a small one where all is used", TakeEdgesTest::full, heap -> heap.malloc(1), 0);
        Refusal.same("a large one where all is used", TakeEdgesTest::full, heap -> heap.malloc(20), 0);
        Refusal.same("stores too small", TakeEdgesTest::narrow, heap -> heap.malloc(4), 0);
        VictimHeap narrow = narrow();
        Check.same("stores just large enough", narrow.malloc(3), 6);
        Check.same("and the victim", narrow.malloc(2), 12);
    }

    private static VictimHeap full() {
        return Heaps.written(32, "U4 U20 U8");
    }

    private static VictimHeap narrow() {
        return Heaps.written(16, "B2 U3 B4 U2 V3 U2");
    }
}
