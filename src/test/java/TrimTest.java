/** Promise 7: trim. */
public final class TrimTest {
    public static void main(String[] args) {
        noTop();
        keeps();
        notJustOne();
        twoAreLeft();
        noneIsLeft();
        onlyTheTop();
        numbersAreLost();
        Check.finish();
    }

    private static void noTop() {
        VictimHeap heap = new VictimHeap(64);
        Check.same("nothing there", heap.trim(0), 0);
        heap.malloc(15);
        Check.same("no top", heap.trim(0), 0);
        Check.same("no top, keep below 0", heap.trim(-100), 0);
        Check.layout("no top", heap, "U16");
    }

    private static void keeps() {
        VictimHeap heap = new VictimHeap(512);
        heap.free(heap.malloc(511));
        Check.same("keep MAX", heap.trim(Integer.MAX_VALUE), 0);
        Check.same("keep 600", heap.trim(600), 0);
        Check.same("keep 528", heap.trim(528), 0);
        Check.same("keep 512", heap.trim(512), 0);
        Check.same("keep 497", heap.trim(497), 0);
        Check.layout("all kept", heap, "T512");
        Check.same("keep 496", heap.trim(496), 16);
        Check.layout("keep 496", heap, "T496");
        Check.same("keep 100", heap.trim(100), 384);
        Check.layout("keep 100", heap, "T112");
        Check.same("end()", heap.end(), 112);
        Check.same("keep -1", heap.trim(-1), 112);
        Check.layout("keep -1", heap, "");
        heap.free(heap.malloc(31));
        Check.same("keep MIN", heap.trim(Integer.MIN_VALUE), 32);
        Check.same("end() at last", heap.end(), 0);
    }

    /** A used chunk, and behind it a top, which END has grown for. */
    private static VictimHeap usedAndTop(int used, int top) {
        VictimHeap heap = new VictimHeap(512);
        heap.malloc(used + top - 1);
        heap.realloc(1, used - 1);
        Check.layout("before trim", heap, "U" + used + " T" + top);
        return heap;
    }

    private static void notJustOne() {
        VictimHeap heap = usedAndTop(15, 17);
        Check.same("17, keep 0", heap.trim(0), 0);
        Check.same("17, keep 1", heap.trim(1), 0);
        Check.same("17, keep -7", heap.trim(-7), 0);
        Check.layout("17 left", heap, "U15 T17");

        VictimHeap more = usedAndTop(15, 33);
        Check.same("33, keep 0", more.trim(0), 16);
        Check.layout("33 less 16", more, "U15 T17");
        VictimHeap keep = usedAndTop(15, 33);
        Check.same("33, keep 1", keep.trim(1), 16);
        Check.layout("33 less 16, keep 1", keep, "U15 T17");
    }

    private static void twoAreLeft() {
        VictimHeap heap = usedAndTop(14, 18);
        Check.same("18, keep 3", heap.trim(3), 0);
        Check.same("18, keep 2", heap.trim(2), 16);
        Check.layout("2 left", heap, "U14 T2");
        Check.same("2, keep 0", heap.trim(0), 0);
        VictimHeap none = usedAndTop(14, 18);
        Check.same("18, keep 0", none.trim(0), 16);
        Check.layout("2 left, keep 0", none, "U14 T2");
    }

    private static void noneIsLeft() {
        VictimHeap heap = usedAndTop(16, 32);
        Check.same("32, keep 1", heap.trim(1), 16);
        Check.layout("16 left", heap, "U16 T16");
        Check.same("16, keep 0", heap.trim(0), 16);
        Check.layout("none left", heap, "U16");
        Check.same("no top", heap.total(4), 0);
        Check.same("no chunk at 16", heap.state(16), -1);
        Check.same("END grows again", heap.malloc(1), 17);
        Check.layout("END grows again", heap, "U16 U2 T14");

        VictimHeap over = usedAndTop(16, 16);
        over.trim(0);
        over.free(1);
        Check.layout("another top", over, "T16");
        Check.same("over where the old top began", over.malloc(20), 1);
        Check.layout("over where the old top began", over, "U21 T11");
    }

    private static void onlyTheTop() {
        VictimHeap heap = Heaps.sideBySide(40, 20, 4);
        heap.free(1);
        heap.malloc(1);
        Check.layout("a victim and a top", heap, "U2 V38 U20 U4 T448");
        Check.same("all of the top", heap.trim(0), 448);
        Check.layout("all of the top", heap, "U2 V38 U20 U4");
        Check.same("no more", heap.trim(0), 0);
        Check.layout("no more", heap, "U2 V38 U20 U4");
    }

    private static void numbersAreLost() {
        VictimHeap heap = new VictimHeap(64);
        heap.malloc(63);
        Heaps.fill(heap, 1, 1000);
        heap.realloc(1, 3);
        Check.same("lost units", heap.trim(10), 48);
        Check.layout("16 units", heap, "U4 T12");
        heap.realloc(1, 18);
        Check.same("those below END stay, new ones are 0", Heaps.data(heap, 1),
            "1000 1001 1002 1003 1004 1005 1006 1007 1008 1009 1010 1011 1012 1013 1014 0 0 0");
    }
}
