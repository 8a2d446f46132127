/** Promise 1: a new object and its limit. */
public final class NewObjectTest {
    public static void main(String[] args) {
        empty();
        // END moves by 16, so it stops at the last multiple of 16 that the limit allows.
        greatestEnd(Integer.MIN_VALUE, 16);
        greatestEnd(-1, 16);
        greatestEnd(0, 16);
        greatestEnd(15, 16);
        greatestEnd(16, 16);
        greatestEnd(31, 16);
        greatestEnd(32, 32);
        greatestEnd(200, 192);
        greatestEnd(511, 496);
        greatestEnd(512, 512);
        greatestEnd(513, 512);
        greatestEnd(528, 512);
        greatestEnd(Integer.MAX_VALUE, 512);
        Check.finish();
    }

    private static void empty() {
        VictimHeap heap = new VictimHeap(100);
        Check.same("new: end()", heap.end(), 0);
        Check.same("new: size(0)", heap.size(0), -1);
        Check.same("new: state(0)", heap.state(0), -1);
        for (int k = 0; k <= 16; k++) {
            Check.same("new: count(" + k + ")", heap.count(k), 0);
        }
        for (int which = 0; which <= 4; which++) {
            Check.same("new: total(" + which + ")", heap.total(which), 0);
        }
        Check.same("new: free(0)", heap.free(0), false);
        Check.same("new: free(1)", heap.free(1), false);
        Check.same("new: usable(1)", heap.usable(1), 0);
        Check.same("new: read(1, 0)", heap.read(1, 0), 0);
        Check.same("new: write(1, 0, 1)", heap.write(1, 0, 1), false);
        Check.same("new: realloc(1, 1)", heap.realloc(1, 1), 0);
        Check.same("new: trim(0)", heap.trim(0), 0);
        Check.same("new: end() again", heap.end(), 0);
    }

    private static void greatestEnd(int limit, int due) {
        VictimHeap whole = new VictimHeap(limit);
        Check.same("limit " + limit + ": a unit too many", whole.malloc(due), 0);
        Check.same("limit " + limit + ": end() after it", whole.end(), 0);
        Check.same("limit " + limit + ": all units", whole.malloc(due - 1), 1);
        Check.same("limit " + limit + ": end()", whole.end(), due);

        VictimHeap pieces = new VictimHeap(limit);
        int taken = 0;
        while (taken < 300 && pieces.malloc(1) != 0) {
            taken++;
        }
        Check.same("limit " + limit + ": chunks of 2", taken, due / 2);
        Check.same("limit " + limit + ": end() with chunks of 2", pieces.end(), due);
    }
}
