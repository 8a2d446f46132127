import java.util.HashMap;
import java.util.List;
import java.util.Map;

/** Promises 8 to 10: each sentence that names a boundary, on both sides of it. */
public final class DataEdgesTest {
    private static final int MIN = Integer.MIN_VALUE;
    private static final int MAX = Integer.MAX_VALUE;
    private static final int[] FAR = {511, 512, 513, -512, MAX - 1, MAX, MIN, MIN + 1};

    /** How many units of data the used chunks of Refusal.mixed have, by their pointers. */
    private static final Map<Integer, Integer> DATA =
        Map.of(5, 1, 11, 1, 30, 1, 49, 1, 51, 2, 71, 1, 73, 4);

    public static void main(String[] args) {
        Check.each(
            DataEdgesTest::usable,
            DataEdgesTest::usableOfNoPointer,
            DataEdgesTest::read,
            DataEdgesTest::readOfNone,
            DataEdgesTest::write,
            DataEdgesTest::writeRefused);
    }

    private static void usable() {
        Check.sentence("Promise 8", "How many units of data a used chunk has");
        for (int n = 1; n <= 511; n++) {
            VictimHeap heap = Heaps.sideBySide(n + 1);
            // With 511 units a rest of one would be left: then it is data, too.
            Check.same("usable of " + (n + 1) + " units", heap.usable(1), n == 510 ? 511 : n);
        }
        VictimHeap more = Heaps.of(16, "B6 U10");
        Check.same("malloc(4) of 6 units", more.malloc(4), 1);
        Check.same("usable of 6 units", more.usable(1), 5);
    }

    private static void usableOfNoPointer() {
        Check.sentence("Promise 8", "0 when p is no pointer of one.");
        VictimHeap heap = Refusal.mixed();
        for (int p = -3; p <= 132; p++) {
            Check.same("usable(" + p + ")", heap.usable(p), DATA.getOrDefault(p, 0));
        }
        for (int p : FAR) {
            Check.same("usable(" + p + ")", heap.usable(p), 0);
        }
        Check.same("usable(1) of none", new VictimHeap(64).usable(1), 0);
        VictimHeap freed = Heaps.of(16, "U4 U12");
        freed.free(1);
        Check.same("usable(1) freed", freed.usable(1), 0);
        Refusal.same("usable(6) changes nothing", Refusal::mixed, it -> it.usable(6), 0);
    }

    private static void read() {
        Check.sentence("Promise 9", "Unit i of the data of a used chunk (from 0)");
        VictimHeap heap = Heaps.written(16, "U4 U5 B2 U5");
        Check.same("data of 4 units", Heaps.data(heap, 1), "101 102 103");
        Check.same("data of 5 units", Heaps.data(heap, 5), "105 106 107 108");
        Check.same("read(5, 0)", heap.read(5, 0), 105);
        Check.same("read(5, 3)", heap.read(5, 3), 108);
        Check.same("read(12, 3), the last unit", heap.read(12, 3), 115);
    }

    private static void readOfNone() {
        Check.sentence("Promise 9", "0 when there is none.");
        VictimHeap heap = Heaps.written(16, "U4 U5 B2 U5");
        for (int i : new int[] {-1, -2, -4, -5, 4, 5, 10, 11, 508, 511, MAX - 5, MAX - 4, MAX, MIN,
            MIN + 1, MIN + 5}) {
            Check.same("read(5, " + i + ")", heap.read(5, i), 0);
        }
        Check.same("read(12, 4), behind END", heap.read(12, 4), 0);
        Check.same("read(1, 3), the next one's own", heap.read(1, 3), 0);
        // Each of these would come to a unit of a used chunk's data, if p + i were all that counts.
        for (int p = -3; p <= 20; p++) {
            for (int unit = 1; unit <= 15; unit++) {
                boolean there = p == 1 && unit <= 3 || p == 5 && unit >= 5 && unit <= 8
                    || p == 12 && unit >= 12;
                Check.same("read(" + p + ", " + (unit - p) + ")", heap.read(p, unit - p),
                    there ? 100 + unit : 0);
            }
        }
        VictimHeap far = Heaps.written(16, "U4 U5 B2 U5");
        for (int p : FAR) {
            for (int i : new int[] {0, 1, 5 - p, MIN, MAX}) {
                Check.same("read(" + p + ", " + i + ")", far.read(p, i), 0);
            }
        }
        Check.same("read(1, 0) of none", new VictimHeap(64).read(1, 0), 0);
        VictimHeap freed = Heaps.written(16, "U4 U12");
        freed.free(1);
        Check.same("read(1, 0) freed", freed.read(1, 0), 0);
        VictimHeap gone = Heaps.written(32, "U16 U16");
        gone.free(17);
        gone.trim(0);
        Check.same("read(17, 0) behind END", gone.read(17, 0), 0);
        Check.same("read(1, 15) behind the last", gone.read(1, 15), 0);
    }

    private static void write() {
        Check.sentence("Promise 10", "Unit i of the data of a used chunk becomes v: true");
        for (int v : new int[] {0, 1, -1, MAX, MIN}) {
            VictimHeap heap = Heaps.written(16, "U4 U5 B2 U5");
            Check.same("write(5, 0, " + v + ")", heap.write(5, 0, v), true);
            Check.same("write(5, 3, " + v + ")", heap.write(5, 3, v), true);
            Check.same("write(12, 3, " + v + ")", heap.write(12, 3, v), true);
            Check.layout("no chunk is changed", heap, "U4 U5 B2 U5");
            Check.same("those three alone", Heaps.numbers(heap), "101 102 103 104 " + v
                + " 106 107 " + v + " 109 110 111 112 113 114 " + v);
        }
    }

    private static void writeRefused() {
        Check.sentence("Promise 10", "false, refused, when there is none.");
        Map<Integer, List<Integer>> wrong = new HashMap<>();
        wrong.put(5, List.of(-1, -2, 1, 2, 6, 123, MAX - 5, MAX - 4, MAX, MIN, MIN + 1));
        wrong.put(51, List.of(-1, -46, 2, 3, MAX, MIN));
        wrong.put(73, List.of(-1, -2, -68, 4, 5, 6, 7, 54, 55, 439, MAX - 72, MAX, MIN));
        wrong.forEach((p, units) -> {
            for (int i : units) {
                refused(p, i);
            }
        });
        for (int p = -3; p <= 132; p++) {
            if (!DATA.containsKey(p)) {
                refused(p, 0);
                refused(p, 1);
                refused(p, 5 - p);
            }
        }
        for (int p : FAR) {
            refused(p, 0);
            refused(p, 5 - p);
        }
        Refusal.same("write(1, 0, 7) of none", () -> new VictimHeap(64),
            heap -> heap.write(1, 0, 7), false);
        VictimHeap first = Refusal.mixed();
        Check.same("write(73, 0, 7)", first.write(73, 0, 7), true);
        Check.same("write(73, 3, 7)", first.write(73, 3, 7), true);
    }

    private static void refused(int p, int i) {
        Refusal.same("write(" + p + ", " + i + ", 7)", Refusal::mixed,
            heap -> heap.write(p, i, 7), false);
    }
}
