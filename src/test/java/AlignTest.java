/** Promise 6: align. */
public final class AlignTest {
    public static void main(String[] args) {
        wrongInputs();
        pointerIsMultiple();
        partInFront();
        frontOfOneIsTooSmall();
        restOfVictim();
        restInStore();
        largest();
        everyPlace();
        Check.finish();
    }

    private static void wrongInputs() {
        VictimHeap heap = new VictimHeap(512);
        int[] wrong = {0, 1, 3, 5, 6, 7, 9, 12, 15, 17, 32, -1, -2, -16,
            Integer.MAX_VALUE, Integer.MIN_VALUE};
        for (int a : wrong) {
            Check.same("align(4, " + a + ")", heap.align(4, a), 0);
        }
        Check.same("align(512, 2)", heap.align(512, 2), 0);
        Check.same("align(MAX, 16)", heap.align(Integer.MAX_VALUE, 16), 0);
        Check.same("align(511, 2)", heap.align(511, 2), 0);
        Check.layout("all refused", heap, "");

        VictimHeap small = new VictimHeap(32);
        small.malloc(3);
        Check.same("no room for n + a + 3", small.align(10, 16), 0);
        Check.layout("no room", small, "U4 T12");
        Check.same("just room for n + a + 3", small.align(9, 16), 16);
        Check.layout("just room", small, "U4 B11 U10 T7");
    }

    private static void pointerIsMultiple() {
        VictimHeap heap = new VictimHeap(64);
        heap.malloc(2);
        Check.same("pointer 4 of 4", heap.align(3, 4), 4);
        Check.layout("no part in front", heap, "U3 U4 T9");
    }

    private static void partInFront() {
        VictimHeap heap = new VictimHeap(64);
        heap.malloc(1);
        Check.same("pointer 3 of 8", heap.align(3, 8), 8);
        Check.layout("5 in front", heap, "U2 B5 U4 T5");

        VictimHeap two = new VictimHeap(64);
        two.malloc(4);
        Check.same("pointer 6 of 8", two.align(3, 8), 8);
        Check.layout("2 in front", two, "U5 B2 U4 T21");

        VictimHeap end = new VictimHeap(64);
        end.malloc(15);
        Check.same("pointer 17 of 16", end.align(1, 16), 32);
        Check.layout("15 in front", end, "U16 B15 U2 T15");

        VictimHeap data = new VictimHeap(64);
        data.malloc(12);
        Heaps.fill(data, 1, 70);
        data.free(1);
        Check.same("pointer 1 of 4", data.align(3, 4), 4);
        Check.layout("3 in front", data, "B3 U4 T9");
        Check.same("numbers stay", Heaps.data(data, 4), "73 74 75");
    }

    private static void frontOfOneIsTooSmall() {
        VictimHeap two = new VictimHeap(64);
        two.malloc(1);
        Check.same("pointer 3 of 2", two.align(1, 2), 6);
        Check.layout("3 in front, rest of 1", two, "U2 B3 U3 T8");
        Check.same("usable with a rest of 1", two.usable(6), 2);

        VictimHeap four = new VictimHeap(64);
        four.malloc(1);
        Check.same("pointer 3 of 4", four.align(1, 4), 8);
        Check.layout("5 in front, rest of 1", four, "U2 B5 U3 T6");

        VictimHeap tree = new VictimHeap(64);
        tree.malloc(13);
        Check.same("pointer 15 of 16", tree.align(1, 16), 32);
        Check.layout("17 in front", tree, "U14 R17 U3 T14");

        VictimHeap least = new VictimHeap(64);
        Check.same("n below 1", least.align(Integer.MIN_VALUE, 2), 4);
        Check.layout("n below 1", least, "B3 U3 T10");
        VictimHeap zero = new VictimHeap(64);
        Check.same("n = 0", zero.align(0, 2), 4);
        Check.layout("n = 0", zero, "B3 U3 T10");
    }

    private static void restOfVictim() {
        VictimHeap heap = Heaps.sideBySide(40, 2);
        heap.free(1);
        heap.malloc(3);
        Check.layout("a victim", heap, "U4 V36 U2 T470");
        Check.same("from the victim", heap.align(3, 4), 8);
        Check.layout("rest goes back to the victim", heap, "U4 B3 U4 V29 U2 T470");
    }

    private static void restInStore() {
        VictimHeap heap = Heaps.sideBySide(10, 2);
        heap.free(1);
        Check.same("from bin 10", heap.align(3, 4), 4);
        Check.layout("both parts stored", heap, "B3 U4 B3 U2 T500");
        Check.same("the rest is the younger one", heap.malloc(2), 8);
        Check.same("the front is the older one", heap.malloc(2), 1);

        VictimHeap next = Heaps.sideBySide(11, 2);
        next.free(1);
        Check.same("from bin 11", next.align(3, 4), 4);
        Check.layout("a rest of one unit more", next, "B3 U4 B4 U2 T499");
    }

    private static void largest() {
        VictimHeap heap = new VictimHeap(512);
        Check.same("a unit too many", heap.align(508, 2), 0);
        Check.layout("a unit too many", heap, "");
        Check.same("all units", heap.align(507, 2), 4);
        Check.layout("all units", heap, "B3 U509");
    }

    private static void everyPlace() {
        for (int a = 2; a <= 16; a *= 2) {
            for (int before = 2; before <= 40; before++) {
                VictimHeap heap = Heaps.sideBySide(before);
                int p = before + 1;
                while (p % a != 0 || p == before + 2) {
                    p++;
                }
                String what = "align(6, " + a + ") behind " + before;
                Check.same(what, heap.align(6, a), p);
                int front = p - before - 1;
                String part = front == 0 ? "" : (front < 16 ? "B" : "R") + front + " ";
                int rest = a + 10 - 1 - front - 7;
                int size = rest == 1 ? 8 : 7;
                Check.layout(what, heap, "U" + before + " " + part + "U" + size + " T"
                    + (512 - before - front - size));
            }
        }
    }
}
