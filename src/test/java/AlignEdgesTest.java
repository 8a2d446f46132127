/** Promise 6: each sentence that names a boundary, on both sides of it. */
public final class AlignEdgesTest {
    private static final int MIN = Integer.MIN_VALUE;
    private static final int MAX = Integer.MAX_VALUE;

    public static void main(String[] args) {
        Check.each(
            AlignEdgesTest::belowOne,
            AlignEdgesTest::unitsTaken,
            AlignEdgesTest::pointerIsMultiple,
            AlignEdgesTest::partInFront,
            AlignEdgesTest::partInFrontIsFreed,
            AlignEdgesTest::restIsFreed,
            AlignEdgesTest::fails,
            AlignEdgesTest::above511,
            AlignEdgesTest::otherAlignments);
    }

    /** An align in a heap of this limit that is laid as told, and how it lies then. */
    private static VictimHeap called(int limit, String before, int n, int a, int answer,
            String after) {
        VictimHeap heap = Heaps.of(limit, before);
        String what = "align(" + n + ", " + a + ") in " + before + " up to " + limit;
        Check.same(what, heap.align(n, a), answer);
        Check.layout(what, heap, after);
        return heap;
    }

    private static void belowOne() {
        Check.sentence("Promise 6", "(n below 1 counts as 1)");
        for (int n : new int[] {1, 0, -1, -2, -4, -7, -511, MIN + 1, MIN}) {
            called(64, "T16", n, 4, 4, "B3 U2 T11");
            called(64, "U3 T13", n, 4, 4, "U3 U2 T11");
            called(64, "B8 U2 T6", n, 4, 4, "B3 U2 B3 U2 T6");
            called(64, "B7 U2 T7", n, 4, 12, "B7 U2 B2 U2 T19");
        }
        called(64, "T16", 2, 4, 4, "B3 U3 T10");
        called(64, "B8 U2 T6", 2, 4, 16, "B8 U2 B5 U4 T13");
    }

    private static void unitsTaken() {
        Check.sentence("Promise 6", "whose pointer is a multiple of a: n + a + 3 units are taken.");
        called(16, "T16", 5, 8, 8, "B7 U6 T3");
        called(16, "T16", 6, 8, 0, "T16");
        called(16, "T16", 11, 2, 4, "B3 U13");
        called(16, "T16", 12, 2, 0, "T16");
        called(64, "B10 U6", 3, 4, 4, "B3 U4 B3 U6");
        called(64, "B9 U7", 3, 4, 20, "B9 U7 B3 U4 T9");
        called(64, "B11 U5", 3, 4, 4, "B3 U4 B4 U5");
        called(64, "R26 U6", 3, 16, 16, "B15 U4 B7 U6");
        called(64, "R22 U10", 3, 16, 16, "B15 U4 B3 U10");
        called(64, "R21 U11", 3, 16, 48, "R21 U11 B15 U4 T13");
    }

    private static void pointerIsMultiple() {
        Check.sentence("Promise 6", "If the pointer is no multiple, the chunk is parted");
        called(64, "U3 T13", 3, 4, 4, "U3 U4 T9");
        called(64, "U4 T12", 3, 4, 8, "U4 B3 U4 T5");
        called(64, "U3 T13", 1, 2, 4, "U3 U2 T11");
        called(64, "U2 T14", 1, 2, 6, "U2 B3 U3 T8");
        called(64, "U7 T9", 1, 8, 8, "U7 U2 T23");
        called(64, "U8 T8", 1, 8, 16, "U8 B7 U2 T15");
        called(64, "U15 T17", 1, 16, 16, "U15 U2 T31");
        called(64, "U16 T16", 1, 16, 32, "U16 B15 U2 T15");
        called(64, "U3 T13", 1, 8, 8, "U3 B4 U2 T7");
    }

    private static void partInFront() {
        Check.sentence("Promise 6",
            "the part in front, with 2 or more units, the fewest with which the part behind "
            + "it has a pointer that is a multiple");
        called(64, "U5 T11", 1, 8, 8, "U5 B2 U2 T23");
        called(64, "U6 T10", 1, 8, 16, "U6 B9 U3 T14");
        called(64, "U4 T12", 1, 8, 8, "U4 B3 U2 T7");
        called(64, "U9 T7", 1, 4, 12, "U9 B2 U2 T19");
        called(64, "U10 T6", 1, 4, 16, "U10 B5 U3 T14");
        called(64, "U13 T19", 1, 16, 16, "U13 B2 U2 T31");
        called(64, "U14 T18", 1, 16, 32, "U14 R17 U3 T14");
        called(64, "T16", 1, 2, 4, "B3 U3 T10");
        called(64, "T32", 1, 16, 16, "B15 U2 T15");
    }

    private static void partInFrontIsFreed() {
        Check.sentence("Promise 6", "and that one; the part in front is freed.");
        VictimHeap bin = called(64, "B3 U2 B4 U3 T4", 1, 4, 16, "B3 U2 B4 U3 B3 U2 T15");
        Check.same("bin 3", bin.count(3), 2);
        Check.same("the part in front is the youngest", bin.malloc(2), 13);
        called(64, "U14 T18", 1, 16, 32, "U14 R17 U3 T14");
        called(64, "U15 T17", 1, 16, 16, "U15 U2 T31");
        VictimHeap both = called(64, "B10 U6", 3, 4, 4, "B3 U4 B3 U6");
        Check.same("the rest came later than the part in front", both.malloc(2), 8);
        Check.same("the part in front came before the rest", both.malloc(2), 1);
    }

    private static void restIsFreed() {
        Check.sentence("Promise 6",
            "Of what is used now, the rest behind its first n + 1 units is freed, if it has 2 "
            + "or more.");
        VictimHeap one = called(64, "U2 B8 U6", 1, 4, 8, "U2 B5 U3 U6");
        Check.same("rest of 1, usable", one.usable(8), 2);
        VictimHeap two = called(64, "U2 B9 U5", 1, 4, 8, "U2 B5 U2 B2 U5");
        Check.same("rest of 2, usable", two.usable(8), 1);
        called(64, "U3 B8 U5", 1, 4, 4, "U3 U2 B6 U5");
        called(64, "U2 V30 U16", 1, 4, 8, "U2 B5 U3 V22 U16");
        called(64, "U3 V29 U16", 1, 4, 4, "U3 U2 V27 U16");
        called(16, "U8 T8", 1, 4, 12, "U8 B3 U2 T3");
        called(16, "U7 T9", 1, 4, 8, "U7 U2 T7");
        called(16, "U6 T10", 1, 4, 12, "U6 B5 U3 T2");
    }

    private static void fails() {
        Check.sentence("Promise 6", "0 when it fails");
        VictimHeap most = Refusal.mixed();
        Check.same("align(32, 16) of 51 units", most.align(32, 16), 80);
        Check.same("END", most.end(), 128);
        Refusal.same("align(33, 16) of 51 units", Refusal::mixed, heap -> heap.align(33, 16), 0);
        VictimHeap other = Refusal.mixed();
        Check.same("align(46, 2) of 51 units", other.align(46, 2), 78);
        Refusal.same("align(47, 2) of 51 units", Refusal::mixed, heap -> heap.align(47, 2), 0);
        Refusal.same("all is used", () -> Heaps.written(16, "U4 U12"), heap -> heap.align(1, 2), 0);
        Refusal.same("room for n, but not for all", () -> Heaps.written(16, "U11 T5"),
            heap -> heap.align(1, 2), 0);
        called(16, "U10 T6", 1, 2, 14, "U10 B3 U3");
        called(512, "T16", 507, 2, 4, "B3 U509");
        called(512, "T16", 508, 2, 0, "T16");
    }

    private static void above511() {
        Check.sentence("Promise 6", "n is above 511");
        // 511 fails, too: there is no room for 511 + a + 3 units.
        for (int n : new int[] {511, 512, 513, 65536, MAX - 19, MAX - 18, MAX - 17, MAX - 5,
            MAX - 4, MAX - 3, MAX - 1, MAX}) {
            for (int a = 2; a <= 16; a *= 2) {
                int by = a;
                String what = "align(" + n + ", " + a + ")";
                Refusal.same(what, Refusal::mixed, heap -> heap.align(n, by), 0);
                Refusal.same(what + " of none", () -> new VictimHeap(512),
                    heap -> heap.align(n, by), 0);
            }
        }
    }

    private static void otherAlignments() {
        Check.sentence("Promise 6", "or a is not 2, 4, 8 or 16.");
        for (int a = -40; a <= 70; a++) {
            if (a == 2 || a == 4 || a == 8 || a == 16) {
                int p = Refusal.mixed().align(1, a);
                Check.same("align(1, " + a + ") answers a pointer", p > 0, true);
                Check.same("align(1, " + a + ") answers a multiple", p % a, 0);
            } else {
                refused(a);
            }
        }
        for (int a : new int[] {128, 256, 512, 1 << 16, 1 << 30, MAX - 1, MAX, MIN, MIN + 1, MIN + 16}) {
            refused(a);
        }
    }

    private static void refused(int a) {
        Refusal.same("align(1, " + a + ")", Refusal::mixed, heap -> heap.align(1, a), 0);
        Refusal.same("align(0, " + a + ")", Refusal::mixed, heap -> heap.align(0, a), 0);
    }
}
