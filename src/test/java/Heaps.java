import java.util.ArrayList;
import java.util.List;

/**
 * Heaps as texts, and ways to bring one into a state that a test needs. All keeps to few calls: what
 * an object answers after its 512th call is free.
 */
final class Heaps {
    /** By state: used, bin, tree (R for its root), victim, top. */
    private static final String LETTERS = "UBRVT";

    private Heaps() {
    }

    /** All chunks in their order, each as its state's letter and its size: "U4 B10 T2". */
    static String layout(VictimHeap heap) {
        StringBuilder text = new StringBuilder();
        int end = heap.end();
        int chunks = 0;
        int unit = 0;
        while (unit < end) {
            int size = heap.size(unit);
            int state = heap.state(unit);
            if (size < 2 || state < 0 || state > 4) {
                return text.append(" no chunk at ").append(unit).toString();
            }
            text.append(unit == 0 ? "" : " ").append(LETTERS.charAt(state)).append(size);
            unit += size;
            chunks++;
        }
        if (unit != end) {
            text.append(" beyond END");
        }
        if (heap.count(1) != chunks) {
            text.append(" and others");
        }
        return text.toString();
    }

    /** A heap of limit and END 512 that begins with used chunks of these sizes; the rest is the top. */
    static VictimHeap sideBySide(int... sizes) {
        VictimHeap heap = new VictimHeap(512);
        heap.free(heap.malloc(511));
        for (int size : sizes) {
            heap.malloc(size - 1);
        }
        return heap;
    }

    /**
     * A heap with just these chunks, whose sizes together are a multiple of 16. The stored ones came
     * into their stores from left to right. A victim stands behind a used chunk of at most 15 units.
     */
    static VictimHeap of(int limit, String layout) {
        return made(limit, layout, false);
    }

    /** As of, and each unit u but the first holds the number 100 + u. */
    static VictimHeap written(int limit, String layout) {
        return made(limit, layout, true);
    }

    /** A layout without its top: with the top that it has where END is 512. */
    static String upTo512(String front) {
        return front + " T" + (512 - unitsOf(front.split(" ")));
    }

    private static VictimHeap made(int limit, String layout, boolean written) {
        String[] chunks = layout.split(" ");
        VictimHeap heap = new VictimHeap(limit);
        heap.malloc(unitsOf(chunks) - 1);
        if (written) {
            fill(heap, 1, 101);
        }
        heap.free(1);
        useAll(heap, chunks);
        cutVictim(heap, chunks);
        freeStored(heap, chunks);
        Check.layout("made", heap, layout);
        return heap;
    }

    /** What shall be a victim is at first one chunk with the used one before it. */
    private static void useAll(VictimHeap heap, String[] chunks) {
        for (int i = 0; i < chunks.length; i++) {
            if (!is(chunks, i, "VT")) {
                int more = is(chunks, i + 1, "V") ? sizeIn(chunks[i + 1]) : 0;
                heap.malloc(sizeIn(chunks[i]) + more - 1);
            }
        }
    }

    private static void cutVictim(VictimHeap heap, String[] chunks) {
        int unit = 0;
        for (int i = 0; i < chunks.length; i++) {
            if (is(chunks, i + 1, "V")) {
                heap.free(unit + 1);
                heap.malloc(sizeIn(chunks[i]) - 1);
            }
            unit += sizeIn(chunks[i]);
        }
    }

    private static void freeStored(VictimHeap heap, String[] chunks) {
        int unit = 0;
        for (int i = 0; i < chunks.length; i++) {
            if (is(chunks, i, "BR")) {
                heap.free(unit + 1);
            }
            unit += sizeIn(chunks[i]);
        }
    }

    private static boolean is(String[] chunks, int i, String letters) {
        return i < chunks.length && letters.indexOf(chunks[i].charAt(0)) >= 0;
    }

    private static int unitsOf(String[] chunks) {
        int units = 0;
        for (String chunk : chunks) {
            units += sizeIn(chunk);
        }
        return units;
    }

    private static int sizeIn(String chunk) {
        return Integer.parseInt(chunk.substring(1));
    }

    /** Writes value + i into each unit i of the data. */
    static void fill(VictimHeap heap, int p, int value) {
        int has = heap.usable(p);
        for (int i = 0; i < has; i++) {
            heap.write(p, i, value + i);
        }
    }

    /** The data from unit 0 on as a text, a blank between two. */
    static String data(VictimHeap heap, int p) {
        StringBuilder text = new StringBuilder();
        int has = heap.usable(p);
        for (int i = 0; i < has; i++) {
            text.append(i == 0 ? "" : " ").append(heap.read(p, i));
        }
        return text.toString();
    }

    /** Frees all, makes one chunk of it, and tells the numbers of all units but the first. */
    static String numbers(VictimHeap heap) {
        List<Integer> pointers = new ArrayList<>();
        int end = heap.end();
        for (int unit = 0; unit < end; unit += Math.max(heap.size(unit), 1)) {
            if (heap.state(unit) == VictimHeap.USED) {
                pointers.add(unit + 1);
            }
        }
        for (int p : pointers) {
            heap.free(p);
        }
        return end == 0 ? "" : data(heap, heap.malloc(end - 1));
    }
}
