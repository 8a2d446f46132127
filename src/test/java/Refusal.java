import java.util.function.Function;
import java.util.function.Supplier;

/**
 * A call that must change nothing. Two heaps are made alike, the call is made on one of them, and
 * then both are asked the same: what lies where, what the next calls take and from where (which
 * tells the victim, the ages in the stores, the top, END and the limit), and all numbers.
 */
final class Refusal {
    /** In this order each store of the mixed heap is emptied, youngest first, and END grows. */
    private static final int[] NEXT = {3, 3, 16, 16, 16, 1, 43, 4, 3, 1};

    private Refusal() {
    }

    /**
     * Limit 128, END 80, a number in every unit but the first. The used chunks have the pointers 5,
     * 11, 30, 49, 51, 71 and 73; the last of them touches the top.
     */
    static VictimHeap mixed() {
        return Heaps.written(128, "B4 U2 B4 U2 R17 U2 R17 U2 U3 V17 U2 U5 T3");
    }

    /** The call must give the answer that is due and leave the heap as it was. */
    static void same(String what, Supplier<VictimHeap> maker, Function<VictimHeap, Object> call,
            Object due) {
        // Two pairs, as the calls that tell what is taken next would hide a number that was lost.
        for (int pair = 0; pair < 2; pair++) {
            VictimHeap touched = maker.get();
            VictimHeap other = maker.get();
            Check.same(what, String.valueOf(call.apply(touched)), String.valueOf(due));
            Check.same(what + ", how all lies", look(touched), look(other));
            if (pair == 0) {
                Check.same(what + ", numbers", Heaps.numbers(touched), Heaps.numbers(other));
            } else {
                Check.same(what + ", taken next", takenNext(touched), takenNext(other));
            }
        }
    }

    private static String look(VictimHeap heap) {
        StringBuilder text = new StringBuilder(Heaps.layout(heap));
        text.append("; counts");
        for (int k = 0; k <= 16; k++) {
            text.append(' ').append(heap.count(k));
        }
        text.append("; totals");
        for (int which = 0; which <= 4; which++) {
            text.append(' ').append(heap.total(which));
        }
        return text.toString();
    }

    private static String takenNext(VictimHeap heap) {
        StringBuilder text = new StringBuilder();
        for (int n : NEXT) {
            text.append(heap.malloc(n)).append(' ');
        }
        return text.append("; ").append(Heaps.layout(heap)).append("; ")
            .append(Heaps.numbers(heap)).toString();
    }
}
