import java.util.ArrayList;
import java.util.List;

/**
 * Heaps as texts, and ways to bring one into a state that a test needs. All keeps to few calls: what
 * an object answers after its 512th call is free.
 */
final class Heaps {
    /** By state: used, bin, tree (R for its root), victim, top. */
    private static final String LETTERS = "UBRVT";

    private Heaps() {
    }

    /** All chunks in their order, each as its state's letter and its size: "U4 B10 T2". */
    static String layout(VictimHeap heap) {
        StringBuilder text = new StringBuilder();
        int end = heap.end();
        int chunks = 0;
        int unit = 0;
        while (unit < end) {
            int size = heap.size(unit);
            int state = heap.state(unit);
            if (size < 2 || state < 0 || state > 4) {
                return text.append(" no chunk at ").append(unit).toString();
            }
            text.append(unit == 0 ? "" : " ").append(LETTERS.charAt(state)).append(size);
            unit += size;
            chunks++;
        }
        if (unit != end) {
            text.append(" beyond END");
        }
        if (heap.count(1) != chunks) {
            text.append(" and others");
        }
        return text.toString();
    }

    /** A heap of limit and END 512 that begins with used chunks of these sizes; the rest is the top. */
    static VictimHeap sideBySide(int... sizes) {
        VictimHeap heap = new VictimHeap(512);
        heap.free(heap.malloc(511));
        for (int size : sizes) {
            heap.malloc(size - 1);
        }
        return heap;
    }

    /**
     * A heap with just these chunks, whose sizes together are a multiple of 16. The stored ones came
     * into their stores from left to right. A victim stands behind a used chunk of at most 15 units.
     */
    static VictimHeap of(int limit, String layout) {
        return made(limit, layout, false);
    }

    /** As of, and each unit u but the first holds the number 100 + u. */
    static VictimHeap written(int limit, String layout) {
        return made(limit, layout, true);
    }

    /** A layout without its top: with the top that it has where END is 512. */
    static String upTo512(String front) {
        int units = 0;
        for (String chunk : front.split(" ")) {
            units += Integer.parseInt(chunk.substring(1));
        }
        return front + " T" + (512 - units);
    }

    private static VictimHeap made(int limit, String layout, boolean written) {
        String[] chunks = layout.split(" ");
        int units = 0;
        for (String chunk : chunks) {
            units += sizeIn(chunk);
        }
        VictimHeap heap = new VictimHeap(limit);
        heap.malloc(units - 1);
        if (written) {
            fill(heap, 1, 101);
        }
        heap.free(1);
        // What shall be a victim is at first one chunk with the used one before it.
        int unit = 0;
        for (int i = 0; i < chunks.length; i++) {
            boolean beforeVictim = i + 1 < chunks.length && chunks[i + 1].charAt(0) == 'V';
            int size = sizeIn(chunks[i]) + (beforeVictim ? sizeIn(chunks[i + 1]) : 0);
            if (chunks[i].charAt(0) != 'V' && chunks[i].charAt(0) != 'T') {
                heap.malloc(size - 1);
            }
        }
        for (int i = 0; i + 1 < chunks.length; i++) {
            if (chunks[i + 1].charAt(0) == 'V') {
                heap.free(unit + 1);
                heap.malloc(sizeIn(chunks[i]) - 1);
            }
            unit += sizeIn(chunks[i]);
        }
        unit = 0;
        for (String chunk : chunks) {
            if (chunk.charAt(0) == 'B' || chunk.charAt(0) == 'R') {
                heap.free(unit + 1);
            }
            unit += sizeIn(chunk);
        }
        Check.layout("made", heap, layout);
        return heap;
    }

    private static int sizeIn(String chunk) {
        return Integer.parseInt(chunk.substring(1));
    }

    /** Writes value + i into each unit i of the data. */
    static void fill(VictimHeap heap, int p, int value) {
        int has = heap.usable(p);
        for (int i = 0; i < has; i++) {
            heap.write(p, i, value + i);
        }
    }

    /** The data from unit 0 on as a text, a blank between two. */
    static String data(VictimHeap heap, int p) {
        StringBuilder text = new StringBuilder();
        int has = heap.usable(p);
        for (int i = 0; i < has; i++) {
            text.append(i == 0 ? "" : " ").append(heap.read(p, i));
        }
        return text.toString();
    }

    /** Frees all, makes one chunk of it, and tells the numbers of all units but the first. */
    static String numbers(VictimHeap heap) {
        List<Integer> pointers = new ArrayList<>();
        int end = heap.end();
        for (int unit = 0; unit < end; unit += Math.max(heap.size(unit), 1)) {
            if (heap.state(unit) == VictimHeap.USED) {
                pointers.add(unit + 1);
            }
        }
        for (int p : pointers) {
            heap.free(p);
        }
        return end == 0 ? "" : data(heap, heap.malloc(end - 1));
    }
}
