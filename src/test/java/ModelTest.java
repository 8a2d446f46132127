/**
 * Promises 1 to 15 together: runs of 512 calls, each made on a VictimHeap and on a PlainHeap, whose
 * answers must be the same. The first calls of a run change things, the others look at what they came
 * to; there are many runs, as an object is good for 512 calls, looks included. The calls come from a
 * counting formula with a fixed start, so every run of this test makes the same ones.
 */
public final class ModelTest {
    private static final int RUNS = 12000;
    private static final int CALLS = 512;
    private static final int[] LIMITS = {512, 200, 64, 100, 300, 16, 512, 47, 150, 512, -3, 1000};
    private static final int[] ODD = {0, -1, 1, 511, 512, 513, 17, 16, 15,
        Integer.MAX_VALUE, Integer.MIN_VALUE, Integer.MAX_VALUE - 1, Integer.MIN_VALUE + 1};
    private static final int[] ALIGNMENTS = {2, 4, 8, 16, 2, 4, 8, 16, 3, 0, -2, 32};

    private final VictimHeap heap;
    private final PlainHeap plain;
    private final int run;
    private final int largest;
    private long number;
    private int calls = 0;

    private ModelTest(int run) {
        this.run = run;
        int limit = LIMITS[run % LIMITS.length];
        heap = new VictimHeap(limit);
        plain = new PlainHeap(limit);
        // Runs with small chunks alone live in the bins, others reach the tree and the limit.
        largest = run % 5 == 0 ? 12 : run % 5 == 1 ? 24 : run % 5 == 2 ? 60 : 40;
        number = 7919L * run + 13;
    }

    public static void main(String[] args) {
        for (int run = 0; run < RUNS && Check.allRight(); run++) {
            ModelTest test = new ModelTest(run);
            test.change(20 + test.below(CALLS - 100));
            test.look();
        }
        Check.finish();
    }

    private int below(int bound) {
        number = number * 6364136223846793005L + 1442695040888963407L;
        return (int) ((number >>> 33) % bound);
    }

    private int amount() {
        if (below(40) == 0) {
            return ODD[below(ODD.length)];
        }
        return below(3) == 0 ? below(largest) : below(16);
    }

    /** Mostly a pointer of a used chunk: from a unit anywhere, the next one that begins such a chunk. */
    private int pointer() {
        if (below(25) == 0) {
            return below(2) == 0 ? ODD[below(ODD.length)] : below(514);
        }
        int end = Math.max(plain.end(), 1);
        int from = below(end);
        for (int i = 0; i < end; i++) {
            int unit = (from + i) % end;
            if (plain.state(unit) == 0) {
                return unit + 1;
            }
        }
        return 1;
    }

    private void change(int times) {
        for (int call = 0; call < times && Check.allRight(); call++) {
            call();
        }
        Check.same("run " + run + ": faults", plain.faults(), "");
    }

    private void call() {
        int kind = below(100);
        if (kind < 28) {
            int n = amount();
            same("malloc(" + n + ")", heap.malloc(n), plain.malloc(n));
        } else if (kind < 31) {
            int n = amount();
            same("calloc(" + n + ")", heap.calloc(n), plain.calloc(n));
        } else if (kind < 57) {
            int p = pointer();
            same("free(" + p + ")", heap.free(p) ? 1 : 0, plain.free(p) ? 1 : 0);
        } else if (kind < 72) {
            int p = pointer();
            int n = amount();
            same("realloc(" + p + ", " + n + ")", heap.realloc(p, n), plain.realloc(p, n));
        } else if (kind < 78) {
            int n = amount();
            int a = ALIGNMENTS[below(ALIGNMENTS.length)];
            same("align(" + n + ", " + a + ")", heap.align(n, a), plain.align(n, a));
        } else if (kind < 81) {
            int keep = below(5) == 0 ? ODD[below(ODD.length)] : below(50) - 5;
            same("trim(" + keep + ")", heap.trim(keep), plain.trim(keep));
        } else {
            int p = pointer();
            int i = below(20) == 0 ? ODD[below(ODD.length)] : below(plain.usable(p) + 2) - 1;
            int v = below(1000000);
            same("write(" + p + ", " + i + ", " + v + ")",
                heap.write(p, i, v) ? 1 : 0, plain.write(p, i, v) ? 1 : 0);
        }
    }

    private void look() {
        same("end()", heap.end(), plain.end());
        for (int k = 0; k <= 16; k++) {
            same("count(" + k + ")", heap.count(k), plain.count(k));
        }
        for (int which = 0; which <= 4; which++) {
            same("total(" + which + ")", heap.total(which), plain.total(which));
        }
        // From a unit anywhere: where the calls do not last for all, another run sees the others.
        int from = below(plain.end() + 1);
        for (int i = 0; i < plain.end(); i++) {
            int unit = (from + i) % plain.end();
            if (plain.size(unit) > 0) {
                lookAt(unit);
            }
        }
    }

    private void lookAt(int unit) {
        if (calls + plain.size(unit) + 2 > CALLS) {
            return;
        }
        same("size(" + unit + ")", heap.size(unit), plain.size(unit));
        same("state(" + unit + ")", heap.state(unit), plain.state(unit));
        for (int i = 0; i < plain.usable(unit + 1); i++) {
            same("read(" + (unit + 1) + ", " + i + ")",
                heap.read(unit + 1, i), plain.read(unit + 1, i));
        }
    }

    private void same(String what, int got, int due) {
        calls++;
        if (got != due) {
            Check.same("run " + run + ", call " + calls + ": " + what, got, due);
        }
    }
}
