import java.util.Arrays;

/**
 * Gives out pieces of a memory and takes them back. What each call must answer stands in the
 * project's document; "promise" and "step" in the comments here mean the numbers used there.
 *
 * <p>Every fact about a chunk stands in a row at the chunk's first unit. Memory is at most 512
 * units, so the bins and the tree are not held as such: a store is searched by looking at all units.
 */
public final class VictimHeap {
    public static final int NONE = -1;
    public static final int USED = 0, BIN = 1, TREE = 2, VICTIM = 3, TOP = 4;

    private static final int LEAST_LIMIT = 16;
    private static final int GREATEST_LIMIT = 512;
    private static final int GREATEST_DATA = 511;
    private static final int LEAST_SIZE = 2;
    private static final int LEAST_TREE_SIZE = 16;
    private static final int END_STEP = 16;
    /** Given to lay where BIN and TREE both may be meant: the chunk's size tells which one. */
    private static final int STORED = TREE;

    private static final int COUNT_USED = 0;
    private static final int COUNT_ALL = 1;
    private static final int COUNT_TREE = 16;

    private final int limit;
    private final int[] units;
    /** By the chunk's first unit; 0 where no chunk begins. */
    private final int[] sizes;
    /** By the chunk's first unit; NONE where no chunk begins. */
    private final int[] states;
    /** By the first unit of a stored chunk: the greater, the younger. */
    private final int[] arrivals;
    private int lastArrival;
    private int end;
    private int victim;
    private int top;

    public VictimHeap(int limit) {
        this.limit = Math.max(LEAST_LIMIT, Math.min(GREATEST_LIMIT, limit));
        units = new int[this.limit];
        sizes = new int[this.limit];
        states = new int[this.limit];
        arrivals = new int[this.limit];
        Arrays.fill(states, NONE);
        lastArrival = 0;
        end = 0;
        victim = NONE;
        top = NONE;
    }

    public int malloc(int n) {
        if (n > GREATEST_DATA) {
            return 0;
        }
        return pointerTo(take(unitsFor(n)));
    }

    public int calloc(int n) {
        int p = malloc(n);
        if (isPointer(p)) {
            Arrays.fill(units, p, p + usable(p), 0);
        }
        return p;
    }

    public boolean free(int p) {
        if (!isPointer(p)) {
            return false;
        }
        release(p - 1);
        return true;
    }

    public int realloc(int p, int n) {
        if (!isPointer(p) || n > GREATEST_DATA) {
            return 0;
        }
        int chunk = p - 1;
        int s = unitsFor(n);
        if (sizes[chunk] >= s) {
            shorten(chunk, s);
            return p;
        }
        return lengthen(chunk, s) ? p : pointerTo(move(chunk, s));
    }

    public int align(int n, int a) {
        if (n > GREATEST_DATA || !isAlignment(a)) {
            return 0;
        }
        int s = unitsFor(n);
        int chunk = take(s + a + 2);
        if (chunk == NONE) {
            return 0;
        }
        int front = unitsInFront(chunk + 1, a);
        if (front > 0) {
            cut(chunk, front, USED);
            release(chunk);
        }
        shorten(chunk + front, s);
        return pointerTo(chunk + front);
    }

    public int trim(int keep) {
        int has = sizeAt(top);
        int spare = has - Math.max(keep, 0);
        if (spare < END_STEP) {
            return 0;
        }
        int less = spare - spare % END_STEP;
        if (has - less == 1) {
            less -= END_STEP;
        }
        shrinkTop(less);
        return less;
    }

    public int usable(int p) {
        return isPointer(p) ? sizes[p - 1] - 1 : 0;
    }

    public int read(int p, int i) {
        return hasData(p, i) ? units[p + i] : 0;
    }

    public boolean write(int p, int i, int v) {
        if (!hasData(p, i)) {
            return false;
        }
        units[p + i] = v;
        return true;
    }

    public int size(int unit) {
        return isChunk(unit) ? sizes[unit] : NONE;
    }

    public int state(int unit) {
        return isChunk(unit) ? states[unit] : NONE;
    }

    public int count(int k) {
        if (k < COUNT_USED || k > COUNT_TREE) {
            return NONE;
        }
        int found = 0;
        for (int unit = 0; unit < end; unit++) {
            if (states[unit] != NONE && isCountedBy(k, unit)) {
                found++;
            }
        }
        return found;
    }

    public int end() {
        return end;
    }

    public int total(int which) {
        if (which < USED || which > TOP) {
            return NONE;
        }
        int sum = 0;
        for (int unit = 0; unit < end; unit++) {
            if (states[unit] == which) {
                sum += sizes[unit];
            }
        }
        return sum;
    }

    // What a number given from outside means.

    private static int unitsFor(int n) {
        return Math.max(n, 1) + 1;
    }

    private static int pointerTo(int chunk) {
        return chunk == NONE ? 0 : chunk + 1;
    }

    private static boolean isAlignment(int a) {
        return a == 2 || a == 4 || a == 8 || a == 16;
    }

    /** How many units are parted off so that the pointer behind them is a multiple of a. */
    private static int unitsInFront(int p, int a) {
        int over = p % a;
        if (over == 0) {
            return 0;
        }
        int front = a - over;
        return front < LEAST_SIZE ? front + a : front;
    }

    private boolean isChunk(int unit) {
        return unit >= 0 && unit < end && states[unit] != NONE;
    }

    private boolean isFree(int unit) {
        return isChunk(unit) && states[unit] != USED;
    }

    private boolean isPointer(int p) {
        return isChunk(p - 1) && states[p - 1] == USED;
    }

    private boolean hasData(int p, int i) {
        return i >= 0 && i < usable(p);
    }

    private boolean isCountedBy(int k, int chunk) {
        switch (k) {
            case COUNT_USED:
                return states[chunk] == USED;
            case COUNT_ALL:
                return true;
            case COUNT_TREE:
                return states[chunk] == TREE;
            default:
                return states[chunk] == BIN && sizes[chunk] == k;
        }
    }

    /** The size of a chunk, 0 for NONE: so that a missing victim or top just has no units. */
    private int sizeAt(int chunk) {
        return chunk == NONE ? 0 : sizes[chunk];
    }

    // To take: each answers the first unit of a chunk that is used now, or NONE.

    private int take(int s) {
        int chunk = s < LEAST_TREE_SIZE ? takeSmall(s) : takeLarge(s);
        return chunk != NONE ? chunk : takeFromTop(s);
    }

    private int takeSmall(int s) {
        int best = bestStored(s);
        // Steps 1 and 2 are for bins alone: a tree chunk of 16 must not go before the victim.
        if (best != NONE && states[best] == BIN && sizes[best] - s < LEAST_SIZE) {
            return cut(best, s, STORED);
        }
        if (sizeAt(victim) >= s) {
            return cut(victim, s, VICTIM);
        }
        return best == NONE ? NONE : cutForVictim(best, s);
    }

    private int takeLarge(int s) {
        int best = bestStored(s);
        boolean victimFits = sizeAt(victim) >= s;
        if (best != NONE && (!victimFits || sizes[best] < sizes[victim])) {
            return cut(best, s, STORED);
        }
        return victimFits ? cut(victim, s, VICTIM) : NONE;
    }

    private int takeFromTop(int s) {
        int lack = s - sizeAt(top);
        if (lack > 0 && !grow(lack)) {
            return NONE;
        }
        return cut(top, s, TOP);
    }

    private int cutForVictim(int chunk, int s) {
        int old = victim;
        cut(chunk, s, VICTIM);
        // Without a rest no other chunk has become the victim: then the old one stays what it is.
        if (old != NONE && old != victim) {
            lay(old, sizes[old], STORED);
        }
        return chunk;
    }

    /**
     * The youngest of the smallest stored chunks that have s units. One search serves both stores,
     * as every chunk in a bin is smaller than every one in the tree.
     */
    private int bestStored(int s) {
        int best = NONE;
        for (int unit = 0; unit < end; unit++) {
            if (isStored(unit) && sizes[unit] >= s && (best == NONE || isBetter(unit, best))) {
                best = unit;
            }
        }
        return best;
    }

    private boolean isStored(int unit) {
        return states[unit] == BIN || states[unit] == TREE;
    }

    private boolean isBetter(int chunk, int other) {
        if (sizes[chunk] != sizes[other]) {
            return sizes[chunk] < sizes[other];
        }
        return arrivals[chunk] > arrivals[other];
    }

    // To free, and to change the size of used chunks.

    private void release(int chunk) {
        int before = chunkBefore(chunk);
        int behind = chunk + sizes[chunk];
        boolean touchesVictim = victim != NONE && (victim == before || victim == behind);
        int first = chunk;
        int size = lift(chunk);
        if (isFree(behind)) {
            size += lift(behind);
        }
        if (isFree(before)) {
            size += lift(before);
            first = before;
        }
        if (first + size == end) {
            lay(first, size, TOP);
        } else {
            lay(first, size, touchesVictim ? VICTIM : STORED);
        }
    }

    private int chunkBefore(int chunk) {
        for (int unit = chunk - 1; unit >= 0; unit--) {
            if (states[unit] != NONE) {
                return unit;
            }
        }
        return NONE;
    }

    private void shorten(int chunk, int s) {
        if (sizes[chunk] - s >= LEAST_SIZE) {
            cut(chunk, s, USED);
            release(chunk + s);
        }
    }

    /** False, and nothing is changed, when the chunk can't have s units where it lies. */
    private boolean lengthen(int chunk, int s) {
        int behind = chunk + sizes[chunk];
        int lack = s - sizes[chunk];
        if (behind == end || behind == top) {
            int lackWithTop = lack - sizeAt(top);
            if (lackWithTop > 0 && !grow(lackWithTop)) {
                return false;
            }
        }
        if (!isFree(behind) || sizes[behind] < lack) {
            return false;
        }
        int restState = states[behind];
        sizes[chunk] += lift(behind);
        cut(chunk, s, restState);
        return true;
    }

    private int move(int chunk, int s) {
        int to = take(s);
        if (to != NONE) {
            System.arraycopy(units, chunk + 1, units, to + 1, sizes[chunk] - 1);
            release(chunk);
        }
        return to;
    }

    // How END moves: of all chunks the top alone changes with it.

    /** False, and nothing is changed, when the limit forbids it. */
    private boolean grow(int lack) {
        int more = (lack + END_STEP - 1) / END_STEP * END_STEP;
        if (end + more > limit) {
            return false;
        }
        int first = top == NONE ? end : top;
        int size = sizeAt(top) + more;
        // A trim may have left numbers behind END, and those are lost.
        Arrays.fill(units, end, end + more, 0);
        end += more;
        lay(first, size, TOP);
        return true;
    }

    private void shrinkTop(int less) {
        int first = top;
        int size = lift(top) - less;
        end -= less;
        if (size > 0) {
            lay(first, size, TOP);
        }
    }

    // The rows: chunks are lifted out of them and laid into them.

    /** Uses s units of a chunk, and lays the rest, if it has units enough, in the state given. */
    private int cut(int chunk, int s, int restState) {
        int size = lift(chunk);
        int rest = size - s;
        if (rest < LEAST_SIZE) {
            lay(chunk, size, USED);
        } else {
            lay(chunk, s, USED);
            lay(chunk + s, rest, restState);
        }
        return chunk;
    }

    private void lay(int chunk, int size, int state) {
        sizes[chunk] = size;
        states[chunk] = state;
        if (state == TOP) {
            top = chunk;
        } else if (state == VICTIM) {
            victim = chunk;
        } else if (state == BIN || state == TREE) {
            states[chunk] = size < LEAST_TREE_SIZE ? BIN : TREE;
            lastArrival++;
            arrivals[chunk] = lastArrival;
        }
    }

    /** Takes a chunk out of the rows and answers how many units it had. */
    private int lift(int chunk) {
        int size = sizes[chunk];
        sizes[chunk] = 0;
        states[chunk] = NONE;
        if (chunk == victim) {
            victim = NONE;
        }
        if (chunk == top) {
            top = NONE;
        }
        return size;
    }
}
