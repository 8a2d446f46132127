/** Promise 7: each sentence that names a boundary, on both sides of it. */
public final class TrimEdgesTest {
    private static final int MIN = Integer.MIN_VALUE;
    private static final int MAX = Integer.MAX_VALUE;

    public static void main(String[] args) {
        Check.each(
            TrimEdgesTest::keeps,
            TrimEdgesTest::belowZero,
            TrimEdgesTest::notJustOne,
            TrimEdgesTest::noneLeft,
            TrimEdgesTest::answersByHowMuch,
            TrimEdgesTest::noTop);
    }

    private static VictimHeap called(String before, int keep, int answer, String after) {
        VictimHeap heap = Heaps.of(64, before);
        Check.same("trim(" + keep + ") in " + before, heap.trim(keep), answer);
        Check.layout("trim(" + keep + ") in " + before, heap, after);
        return heap;
    }

    private static void keeps() {
        Check.sentence("Promise 7",
            "END becomes less by the greatest multiple of 16 that leaves of the top keep "
            + "units or more");
        called("U4 T44", MAX, 0, "U4 T44");
        called("U4 T44", 61, 0, "U4 T44");
        called("U4 T44", 60, 0, "U4 T44");
        called("U4 T44", 45, 0, "U4 T44");
        called("U4 T44", 44, 0, "U4 T44");
        called("U4 T44", 29, 0, "U4 T44");
        called("U4 T44", 28, 16, "U4 T28");
        called("U4 T44", 27, 16, "U4 T28");
        called("U4 T44", 13, 16, "U4 T28");
        called("U4 T44", 12, 32, "U4 T12");
        called("U4 T44", 11, 32, "U4 T12");
        called("U4 T44", 0, 32, "U4 T12");
        called("U4 T12", 0, 0, "U4 T12");
        called("U2 V20 U4 T22", 6, 16, "U2 V20 U4 T6");
        called("U2 V20 U4 T22", 7, 0, "U2 V20 U4 T22");
    }

    private static void belowZero() {
        Check.sentence("Promise 7", "(keep below 0 counts as 0)");
        for (int keep : new int[] {0, -1, -2, -15, -16, -17, MIN + 1, MIN}) {
            called("U16 T32", keep, 32, "U16");
            called("U4 T44", keep, 32, "U4 T12");
            called("U15 T17", keep, 0, "U15 T17");
            called("U14 T18", keep, 16, "U14 T2");
            called("T64", keep, 64, "");
        }
        called("U16 T32", 1, 16, "U16 T16");
        called("T64", 1, 48, "T16");
    }

    private static void notJustOne() {
        Check.sentence("Promise 7", "but not just 1");
        called("U15 T17", 0, 0, "U15 T17");
        called("U15 T17", 1, 0, "U15 T17");
        called("U15 T17", 2, 0, "U15 T17");
        called("U15 T33", 0, 16, "U15 T17");
        called("U15 T33", 1, 16, "U15 T17");
        called("U15 T33", 2, 16, "U15 T17");
        called("U15 T33", 17, 16, "U15 T17");
        called("U15 T33", 18, 0, "U15 T33");
        called("U14 T18", 0, 16, "U14 T2");
        called("U14 T18", 1, 16, "U14 T2");
        called("U14 T18", 2, 16, "U14 T2");
        called("U14 T18", 3, 0, "U14 T18");
        called("U14 T2", 0, 0, "U14 T2");
        called("U16 T16", 0, 16, "U16");
        Refusal.same("trim(0) that would leave 1", () -> Heaps.written(64, "U15 T17"),
            heap -> heap.trim(0), 0);
    }

    private static void noneLeft() {
        Check.sentence("Promise 7", "(with 0 left there is no top then)");
        VictimHeap heap = called("U16 T16", 0, 16, "U16");
        Check.same("total(TOP)", heap.total(VictimHeap.TOP), 0);
        Check.same("state at END", heap.state(16), -1);
        Check.same("trim again", heap.trim(0), 0);
        Check.same("the next one is from new units", heap.malloc(3), 17);
        Check.layout("the next one is from new units", heap, "U16 U4 T12");
        called("U16 T16", 1, 0, "U16 T16");
        called("U16 T16", 16, 0, "U16 T16");
        VictimHeap whole = called("T16", 0, 16, "");
        Check.same("END", whole.end(), 0);
        Check.same("count(1)", whole.count(1), 0);
        Check.same("malloc(1)", whole.malloc(1), 1);
        VictimHeap freed = called("U16 T16", 0, 16, "U16");
        freed.free(1);
        Check.layout("a chunk freed at END", freed, "T16");
        Check.same("one over where the old top began", freed.malloc(19), 1);
        Check.layout("one over where the old top began", freed, "U20 T12");
    }

    private static void answersByHowMuch() {
        Check.sentence("Promise 7", "Answers by how much");
        for (int keep = 0; keep <= 64; keep++) {
            VictimHeap heap = Heaps.of(64, "T64");
            int less = (64 - keep) / 16 * 16;
            Check.same("trim(" + keep + ") of 64", heap.trim(keep), less);
            Check.same("END after trim(" + keep + ")", heap.end(), 64 - less);
        }
    }

    private static void noTop() {
        Check.sentence("Promise 7", "0 also when there is no top.");
        for (int keep : new int[] {MIN, -16, -1, 0, 1, 16, MAX}) {
            String what = "trim(" + keep + "), ";
            Refusal.same(what + "new", () -> new VictimHeap(64), heap -> heap.trim(keep), 0);
            Refusal.same(what + "used", () -> Heaps.written(64, "U16"), heap -> heap.trim(keep), 0);
            Refusal.same(what + "others free", () -> Heaps.written(128, "R20 U2 V22 U4"),
                heap -> heap.trim(keep), 0);
        }
        called("R20 U2 V20 U4 T18", 0, 16, "R20 U2 V20 U4 T2");
    }
}
