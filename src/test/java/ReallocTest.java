/** Promise 5: realloc. */
public final class ReallocTest {
    public static void main(String[] args) {
        wrongInputs();
        staysAsItIs();
        restIsFreed();
        intoStored();
        restOfStoredIsYoungest();
        intoVictim();
        intoTop();
        endGrows();
        moves();
        movesWithinVictim();
        limitForbidsGrowth();
        fails();
        Check.finish();
    }

    private static void wrongInputs() {
        VictimHeap heap = Heaps.sideBySide(4, 5, 6, 2);
        heap.free(5);
        String layout = "U4 B5 U6 U2 T495";
        int[] wrong = {0, 2, 4, 5, 6, 11, 18, 512, 513, -1, Integer.MAX_VALUE, Integer.MIN_VALUE};
        for (int p : wrong) {
            Check.same("realloc(" + p + ", 2)", heap.realloc(p, 2), 0);
            Check.same("realloc(" + p + ", 20)", heap.realloc(p, 20), 0);
        }
        Check.same("realloc(1, 512)", heap.realloc(1, 512), 0);
        Check.same("realloc(1, MAX)", heap.realloc(1, Integer.MAX_VALUE), 0);
        Check.layout("all refused", heap, layout);
    }

    private static void staysAsItIs() {
        VictimHeap heap = Heaps.sideBySide(6, 2);
        Check.same("as many", heap.realloc(1, 5), 1);
        Check.layout("as many", heap, "U6 U2 T504");
        Check.same("rest of 1", heap.realloc(1, 4), 1);
        Check.layout("rest of 1", heap, "U6 U2 T504");
    }

    private static void restIsFreed() {
        VictimHeap alone = Heaps.sideBySide(6, 2);
        Heaps.fill(alone, 1, 40);
        Check.same("rest of 2", alone.realloc(1, 3), 1);
        Check.layout("rest of 2", alone, "U4 B2 U2 T504");
        Check.same("data that are left", Heaps.data(alone, 1), "40 41 42");

        VictimHeap stored = Heaps.sideBySide(6, 5, 2);
        stored.free(7);
        Check.same("rest before a stored one", stored.realloc(1, 3), 1);
        Check.layout("rest before a stored one", stored, "U4 B7 U2 T499");
        Check.same("bin 5", stored.count(5), 0);

        VictimHeap victim = Heaps.sideBySide(20, 2);
        victim.free(1);
        victim.malloc(7);
        Check.layout("a victim", victim, "U8 V12 U2 T490");
        Check.same("rest before the victim", victim.realloc(1, 3), 1);
        Check.layout("rest before the victim", victim, "U4 V16 U2 T490");

        VictimHeap top = new VictimHeap(64);
        top.malloc(7);
        Check.same("rest before the top", top.realloc(1, 3), 1);
        Check.layout("rest before the top", top, "U4 T12");

        VictimHeap end = new VictimHeap(64);
        end.malloc(15);
        Check.same("rest at END", end.realloc(1, 12), 1);
        Check.layout("rest at END", end, "U13 T3");
        Check.same("n below 1", end.realloc(1, Integer.MIN_VALUE), 1);
        Check.layout("n below 1", end, "U2 T14");
    }

    private static void intoStored() {
        VictimHeap heap = Heaps.sideBySide(4, 8, 2);
        Heaps.fill(heap, 1, 60);
        heap.free(5);
        Check.same("into a bin's chunk", heap.realloc(1, 5), 1);
        Check.layout("into a bin's chunk", heap, "U6 B6 U2 T498");
        Check.same("rest of 1", heap.realloc(1, 10), 1);
        Check.layout("rest of 1", heap, "U12 U2 T498");
        Check.same("data", Heaps.data(heap, 1), "60 61 62 0 0 0 0 0 0 0 0");

        VictimHeap exact = Heaps.sideBySide(4, 8, 2);
        exact.free(5);
        Check.same("all of it", exact.realloc(1, 11), 1);
        Check.layout("all of it", exact, "U12 U2 T498");

        VictimHeap tree = Heaps.sideBySide(4, 40, 2);
        tree.free(5);
        Check.same("into a tree's chunk", tree.realloc(1, 9), 1);
        Check.layout("into a tree's chunk", tree, "U10 R34 U2 T466");
        Check.same("rest for a bin", tree.realloc(1, 29), 1);
        Check.layout("rest for a bin", tree, "U30 B14 U2 T466");
    }

    private static void restOfStoredIsYoungest() {
        VictimHeap heap = Heaps.sideBySide(4, 8, 2, 6, 2);
        heap.free(5);
        heap.free(15);
        heap.realloc(1, 5);
        Check.layout("two in bin 6", heap, "U6 B6 U2 B6 U2 T490");
        Check.same("the rest first", heap.malloc(5), 7);
        Check.same("then the older one", heap.malloc(5), 15);
    }

    private static void intoVictim() {
        VictimHeap heap = Heaps.sideBySide(20, 2);
        heap.free(1);
        heap.malloc(3);
        Check.layout("a victim", heap, "U4 V16 U2 T490");
        Check.same("into the victim", heap.realloc(1, 7), 1);
        Check.layout("into the victim", heap, "U8 V12 U2 T490");
        Check.same("rest of 1", heap.realloc(1, 18), 1);
        Check.layout("rest of 1", heap, "U20 U2 T490");
        Check.same("no victim", heap.total(3), 0);
    }

    private static void intoTop() {
        VictimHeap heap = new VictimHeap(64);
        heap.malloc(3);
        Heaps.fill(heap, 1, 7);
        Check.same("into the top", heap.realloc(1, 9), 1);
        Check.layout("into the top", heap, "U10 T6");
        Check.same("rest of 1", heap.realloc(1, 14), 1);
        Check.layout("rest of 1", heap, "U16");
        Check.same("no top", heap.total(4), 0);
        Check.same("data", Heaps.data(heap, 1), "7 8 9 0 0 0 0 0 0 0 0 0 0 0 0");

        VictimHeap exact = new VictimHeap(64);
        exact.malloc(3);
        Check.same("all of it", exact.realloc(1, 15), 1);
        Check.layout("all of it", exact, "U16");
    }

    private static void endGrows() {
        VictimHeap heap = new VictimHeap(64);
        heap.malloc(15);
        Check.same("behind END", heap.realloc(1, 16), 1);
        Check.layout("behind END", heap, "U17 T15");
        Check.same("all of the top", heap.realloc(1, 31), 1);
        Check.layout("all of the top", heap, "U32");
        Check.same("by exactly a step", heap.realloc(1, 47), 1);
        Check.layout("by exactly a step", heap, "U48");
        Check.same("above the limit", heap.realloc(1, 64), 0);
        Check.layout("above the limit", heap, "U48");
        Check.same("rest of 1", heap.realloc(1, 62), 1);
        Check.layout("rest of 1", heap, "U64");

        VictimHeap top = new VictimHeap(64);
        top.malloc(3);
        Heaps.fill(top, 1, 1);
        Check.same("behind the top", top.realloc(1, 19), 1);
        Check.layout("behind the top", top, "U20 T12");
        Check.same("data", Heaps.data(top, 1), "1 2 3 0 0 0 0 0 0 0 0 0 0 0 0 0 0 0 0");
        Check.same("by several steps", top.realloc(1, 63), 1);
        Check.layout("by several steps", top, "U64");

        VictimHeap one = new VictimHeap(64);
        one.malloc(3);
        Check.same("behind the top, rest of 1", one.realloc(1, 30), 1);
        Check.layout("behind the top, rest of 1", one, "U32");

        VictimHeap first = new VictimHeap(64);
        first.malloc(39);
        first.malloc(3);
        first.free(1);
        Check.layout("room in the tree", first, "R40 U4 T4");
        Check.same("END grows all the same", first.realloc(41, 19), 41);
        Check.layout("END grows all the same", first, "R40 U20 T4");
    }

    private static void moves() {
        VictimHeap used = Heaps.sideBySide(4, 2);
        Heaps.fill(used, 1, 30);
        Check.same("a used one behind", used.realloc(1, 5), 7);
        Check.layout("a used one behind", used, "B4 U2 U6 T500");
        Check.same("copied data", Heaps.data(used, 7), "30 31 32 0 0");
        Check.same("old pointer", used.free(1), false);

        VictimHeap small = Heaps.sideBySide(4, 3, 2);
        small.free(5);
        Check.same("a free one too small", small.realloc(1, 9), 10);
        Check.layout("a free one too small", small, "B7 U2 U10 T493");

        VictimHeap byOne = Heaps.sideBySide(4, 3, 2);
        byOne.free(5);
        Check.same("a free one too small by 1", byOne.realloc(1, 7), 10);
        Check.layout("a free one too small by 1", byOne, "B7 U2 U8 T495");

        VictimHeap bin = Heaps.sideBySide(4, 2, 9, 2);
        Heaps.fill(bin, 1, 30);
        Heaps.fill(bin, 7, 50);
        bin.free(7);
        Check.same("to a bin's chunk", bin.realloc(1, 7), 7);
        Check.layout("to a bin's chunk", bin, "B4 U2 U9 U2 T495");
        Check.same("numbers behind the copy", Heaps.data(bin, 7), "30 31 32 53 54 55 56 57");
        Check.same("the old one is in its bin", bin.malloc(3), 1);
        Check.same("its numbers stay", Heaps.data(bin, 1), "30 31 32");
    }

    private static void movesWithinVictim() {
        VictimHeap heap = Heaps.sideBySide(20, 4, 2);
        heap.free(1);
        heap.malloc(7);
        Heaps.fill(heap, 21, 90);
        Check.layout("victim before", heap, "U8 V12 U4 U2 T486");
        Check.same("to the victim before", heap.realloc(21, 5), 9);
        Check.layout("taken first, then freed", heap, "U8 U6 V10 U2 T486");
        Check.same("data", Heaps.data(heap, 9), "90 91 92 0 0");
    }

    private static void limitForbidsGrowth() {
        VictimHeap heap = new VictimHeap(64);
        heap.malloc(39);
        heap.malloc(3);
        Heaps.fill(heap, 41, 20);
        heap.free(1);
        Check.layout("room in the tree", heap, "R40 U4 T4");
        Check.same("to the tree's chunk", heap.realloc(41, 29), 1);
        Check.layout("to the tree's chunk", heap, "U30 T18");
        Check.same("copied", heap.read(1, 2), 22);
        Check.same("not copied", heap.read(1, 3), 0);
    }

    private static void fails() {
        VictimHeap heap = new VictimHeap(32);
        heap.malloc(15);
        heap.malloc(11);
        Heaps.fill(heap, 1, 100);
        Heaps.fill(heap, 17, 200);
        String first = Heaps.data(heap, 1);
        String second = Heaps.data(heap, 17);
        Check.layout("little room", heap, "U16 U12 T4");
        Check.same("no room elsewhere", heap.realloc(1, 20), 0);
        Check.same("no room behind", heap.realloc(17, 16), 0);
        Check.same("all that there is, for one", heap.realloc(17, 511), 0);
        Check.layout("nothing is changed", heap, "U16 U12 T4");
        Check.same("first data", Heaps.data(heap, 1), first);
        Check.same("second data", Heaps.data(heap, 17), second);

        VictimHeap old = new VictimHeap(32);
        old.malloc(9);
        old.malloc(3);
        Check.layout("room with the old one alone", old, "U10 U4 T2");
        old.free(1);
        Check.same("the old one is no room", old.realloc(11, 30), 0);
        Check.layout("the old one is no room", old, "B10 U4 T2");
    }
}
