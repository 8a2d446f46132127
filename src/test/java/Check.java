/** Compares answers with those that are due, and says how the test ended. */
final class Check {
    private static int wrong = 0;
    private static int looked = 0;
    private static int sentences = 0;
    private static String sentence = "";
    private static int lookedBefore = 0;

    private Check() {
    }

    /** Runs them all: what one of them throws is a failure, but does not keep the others back. */
    static void each(Runnable... tests) {
        for (Runnable test : tests) {
            try {
                test.run();
            } catch (RuntimeException thrown) {
                fail("a call", "by throwing " + thrown, "an answer");
            }
        }
        finish();
    }

    /** What follows shows these words of the document; a failure is told with them. */
    static void sentence(String place, String words) {
        endSentence();
        sentences++;
        sentence = place + ": \"" + words + "\"";
        lookedBefore = looked;
    }

    static void same(String what, long got, long due) {
        looked++;
        if (got != due) {
            fail(what, String.valueOf(got), String.valueOf(due));
        }
    }

    static void same(String what, boolean got, boolean due) {
        looked++;
        if (got != due) {
            fail(what, String.valueOf(got), String.valueOf(due));
        }
    }

    static void same(String what, String got, String due) {
        looked++;
        if (!got.equals(due)) {
            fail(what, got, due);
        }
    }

    /** Compares all chunks of the heap, from unit 0 to END, with a text as Heaps.layout makes it. */
    static void layout(String what, VictimHeap heap, String due) {
        same(what + ", layout", Heaps.layout(heap), due);
    }

    static boolean allRight() {
        return wrong == 0;
    }

    static void finish() {
        endSentence();
        String shown = sentences == 0 ? "" : sentences + " sentences, ";
        System.out.println(shown + looked + " answers looked at, " + wrong + " not as due");
        if (wrong != 0 || looked == 0) {
            System.exit(1);
        }
    }

    private static void endSentence() {
        if (sentences > 0 && looked == lookedBefore) {
            fail("answers looked at", "0", "some");
        }
    }

    private static void fail(String what, String got, String due) {
        wrong++;
        if (!sentence.isEmpty()) {
            System.out.println(sentence);
        }
        System.out.println(what + ": answered " + got + ", due is " + due);
    }
}
