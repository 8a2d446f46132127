import java.util.ArrayList;
import java.util.List;

/**
 * The document once more, in another way: chunks are objects in one list in their order, a store is
 * a list in which the last one is the youngest. Slow, and written to be read beside the document.
 */
final class PlainHeap {
    private static final class Chunk {
        int size;
        boolean used;

        Chunk(int size, boolean used) {
            this.size = size;
            this.used = used;
        }
    }

    private final int limit;
    private final List<Integer> memory = new ArrayList<>();
    private final List<Chunk> chunks = new ArrayList<>();
    /** At 2 .. 15 the bins, at 16 the tree. */
    private final List<List<Chunk>> stores = new ArrayList<>();
    private Chunk victim;
    private Chunk top;

    PlainHeap(int limit) {
        this.limit = limit < 16 ? 16 : limit > 512 ? 512 : limit;
        for (int k = 0; k <= 16; k++) {
            stores.add(new ArrayList<>());
        }
    }

    int malloc(int n) {
        Chunk chunk = n > 511 ? null : take((n < 1 ? 1 : n) + 1);
        return chunk == null ? 0 : unitOf(chunk) + 1;
    }

    int calloc(int n) {
        int p = malloc(n);
        for (int i = 0; i < usable(p); i++) {
            write(p, i, 0);
        }
        return p;
    }

    boolean free(int p) {
        Chunk chunk = usedAt(p);
        if (chunk != null) {
            toFree(chunk);
        }
        return chunk != null;
    }

    int realloc(int p, int n) {
        Chunk chunk = usedAt(p);
        if (chunk == null || n > 511) {
            return 0;
        }
        int s = (n < 1 ? 1 : n) + 1;
        if (chunk.size >= s) {
            freeRest(chunk, s);
            return p;
        }
        boolean endsAtEnd = unitOf(chunk) + chunk.size == memory.size();
        if (endsAtEnd || top != null && behind(chunk) == top) {
            int together = chunk.size + (endsAtEnd ? 0 : top.size);
            int steps = 0;
            while (together + 16 * steps < s) {
                steps++;
            }
            if (steps > 0 && memory.size() + 16 * steps <= limit) {
                moreEnd(16 * steps);
            }
        }
        Chunk next = behind(chunk);
        if (next != null && !next.used && chunk.size + next.size >= s) {
            boolean wasTop = next == top;
            boolean wasVictim = next == victim;
            forget(next);
            chunks.remove(next);
            chunk.size += next.size;
            Chunk rest = toCut(chunk, s);
            if (wasTop) {
                top = rest;
            } else if (wasVictim) {
                victim = rest;
            } else if (rest != null) {
                intoStore(rest);
            }
            return p;
        }
        Chunk other = take(s);
        if (other == null) {
            return 0;
        }
        int to = unitOf(other) + 1;
        for (int i = 0; i < chunk.size - 1; i++) {
            memory.set(to + i, memory.get(p + i));
        }
        toFree(chunk);
        return to;
    }

    int align(int n, int a) {
        if (n > 511 || !List.of(2, 4, 8, 16).contains(a)) {
            return 0;
        }
        int data = n < 1 ? 1 : n;
        Chunk chunk = take(data + a + 3);
        if (chunk == null) {
            return 0;
        }
        int pointer = unitOf(chunk) + 1;
        if (pointer % a != 0) {
            int front = 2;
            while ((pointer + front) % a != 0) {
                front++;
            }
            Chunk back = new Chunk(chunk.size - front, true);
            chunks.add(chunks.indexOf(chunk) + 1, back);
            chunk.size = front;
            toFree(chunk);
            chunk = back;
        }
        freeRest(chunk, data + 1);
        return unitOf(chunk) + 1;
    }

    int trim(int keep) {
        int best = 0;
        int least = keep < 0 ? 0 : keep;
        for (int less = 16; top != null && less <= top.size; less += 16) {
            int left = top.size - less;
            if (left >= least && left != 1) {
                best = less;
            }
        }
        if (best > 0) {
            top.size -= best;
            for (int i = 0; i < best; i++) {
                memory.remove(memory.size() - 1);
            }
            if (top.size == 0) {
                chunks.remove(top);
                top = null;
            }
        }
        return best;
    }

    int usable(int p) {
        Chunk chunk = usedAt(p);
        return chunk == null ? 0 : chunk.size - 1;
    }

    int read(int p, int i) {
        return i >= 0 && i < usable(p) ? memory.get(p + i) : 0;
    }

    boolean write(int p, int i, int v) {
        if (i < 0 || i >= usable(p)) {
            return false;
        }
        memory.set(p + i, v);
        return true;
    }

    int size(int unit) {
        Chunk chunk = chunkAt(unit);
        return chunk == null ? -1 : chunk.size;
    }

    int state(int unit) {
        Chunk chunk = chunkAt(unit);
        if (chunk == null) {
            return -1;
        }
        if (chunk.used) {
            return 0;
        }
        return chunk == top ? 4 : chunk == victim ? 3 : stores.get(16).contains(chunk) ? 2 : 1;
    }

    int count(int k) {
        if (k < 0 || k > 16) {
            return -1;
        }
        if (k > 1) {
            return stores.get(k).size();
        }
        int found = 0;
        for (Chunk chunk : chunks) {
            if (chunk.used || k == 1) {
                found++;
            }
        }
        return found;
    }

    int end() {
        return memory.size();
    }

    int total(int which) {
        if (which == 3) {
            return victim == null ? 0 : victim.size;
        }
        if (which == 4) {
            return top == null ? 0 : top.size;
        }
        if (which < 0 || which > 4) {
            return -1;
        }
        int sum = 0;
        if (which == 0) {
            for (Chunk chunk : chunks) {
                sum += chunk.used ? chunk.size : 0;
            }
        }
        for (int k = 2; k <= 16; k++) {
            if (which == (k == 16 ? 2 : 1)) {
                for (Chunk chunk : stores.get(k)) {
                    sum += chunk.size;
                }
            }
        }
        return sum;
    }

    /** What is wrong with how the chunks lie, by the document's first section; "" when nothing is. */
    String faults() {
        StringBuilder text = new StringBuilder();
        int units = 0;
        boolean freeBefore = false;
        for (Chunk chunk : chunks) {
            units += chunk.size;
            if (chunk.size < 2) {
                text.append("a chunk is too small; ");
            }
            if (freeBefore && !chunk.used) {
                text.append("free chunks touch; ");
            }
            freeBefore = !chunk.used;
        }
        if (units != memory.size()) {
            text.append("the chunks do not end at END; ");
        }
        if (freeBefore != (top != null) || top != null && chunks.get(chunks.size() - 1) != top) {
            text.append("the top is not the free chunk at END; ");
        }
        return text.toString();
    }

    private Chunk take(int s) {
        Chunk chunk = s < 16 ? takeSmall(s) : takeLarge(s);
        if (chunk != null) {
            return chunk;
        }
        int has = top == null ? 0 : top.size;
        int more = 0;
        while (has + more < s) {
            more += 16;
        }
        if (memory.size() + more > limit) {
            return null;
        }
        if (more > 0) {
            moreEnd(more);
        }
        Chunk taken = top;
        top = toCut(taken, s);
        return taken;
    }

    private Chunk takeSmall(int s) {
        for (int k = s; k <= s + 1 && k <= 15; k++) {
            Chunk chunk = youngest(stores.get(k));
            if (chunk != null) {
                forget(chunk);
                chunk.used = true;
                return chunk;
            }
        }
        if (victim != null && victim.size >= s) {
            Chunk taken = victim;
            victim = toCut(taken, s);
            return taken;
        }
        Chunk chunk = null;
        for (int k = s + 1; k <= 15 && chunk == null; k++) {
            chunk = youngest(stores.get(k));
        }
        if (chunk == null) {
            chunk = bestOfTree(s);
        }
        if (chunk != null) {
            forget(chunk);
            Chunk rest = toCut(chunk, s);
            if (rest != null) {
                if (victim != null) {
                    intoStore(victim);
                }
                victim = rest;
            }
        }
        return chunk;
    }

    private Chunk takeLarge(int s) {
        Chunk best = bestOfTree(s);
        boolean noVictim = victim == null || victim.size < s;
        if (best != null && (noVictim || best.size < victim.size)) {
            forget(best);
            Chunk rest = toCut(best, s);
            if (rest != null) {
                intoStore(rest);
            }
            return best;
        }
        if (noVictim) {
            return null;
        }
        Chunk taken = victim;
        victim = toCut(taken, s);
        return taken;
    }

    private Chunk youngest(List<Chunk> store) {
        return store.isEmpty() ? null : store.get(store.size() - 1);
    }

    private Chunk bestOfTree(int s) {
        Chunk best = null;
        for (Chunk chunk : stores.get(16)) {
            if (chunk.size >= s && (best == null || chunk.size <= best.size)) {
                best = chunk;
            }
        }
        return best;
    }

    /** The chunk is used; answers the rest, free and in no place yet, or null. */
    private Chunk toCut(Chunk chunk, int s) {
        chunk.used = true;
        if (chunk.size - s < 2) {
            return null;
        }
        Chunk rest = new Chunk(chunk.size - s, false);
        chunk.size = s;
        chunks.add(chunks.indexOf(chunk) + 1, rest);
        return rest;
    }

    private void freeRest(Chunk chunk, int s) {
        Chunk rest = toCut(chunk, s);
        if (rest != null) {
            toFree(rest);
        }
    }

    private void toFree(Chunk chunk) {
        chunk.used = false;
        boolean withVictim = false;
        int at = chunks.indexOf(chunk);
        for (int i = Math.min(at + 1, chunks.size() - 1); i >= Math.max(at - 1, 0); i--) {
            Chunk other = chunks.get(i);
            if (other != chunk && !other.used) {
                withVictim |= other == victim;
                forget(other);
                chunks.remove(other);
                chunk.size += other.size;
            }
        }
        if (unitOf(chunk) + chunk.size == memory.size()) {
            top = chunk;
        } else if (withVictim) {
            victim = chunk;
        } else {
            intoStore(chunk);
        }
    }

    private void intoStore(Chunk chunk) {
        stores.get(chunk.size < 16 ? chunk.size : 16).add(chunk);
    }

    private void forget(Chunk chunk) {
        for (List<Chunk> store : stores) {
            store.remove(chunk);
        }
        victim = victim == chunk ? null : victim;
        top = top == chunk ? null : top;
    }

    private void moreEnd(int more) {
        if (top == null) {
            top = new Chunk(0, false);
            chunks.add(top);
        }
        top.size += more;
        for (int i = 0; i < more; i++) {
            memory.add(0);
        }
    }

    private int unitOf(Chunk chunk) {
        int unit = 0;
        for (Chunk other : chunks) {
            if (other == chunk) {
                return unit;
            }
            unit += other.size;
        }
        return -1;
    }

    private Chunk behind(Chunk chunk) {
        int at = chunks.indexOf(chunk) + 1;
        return at < chunks.size() ? chunks.get(at) : null;
    }

    private Chunk chunkAt(int unit) {
        int first = 0;
        for (Chunk chunk : chunks) {
            if (first == unit) {
                return chunk;
            }
            first += chunk.size;
        }
        return null;
    }

    private Chunk usedAt(int p) {
        Chunk chunk = chunkAt(p - 1);
        return chunk != null && chunk.used ? chunk : null;
    }
}
