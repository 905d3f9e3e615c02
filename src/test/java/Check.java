/** Counts and prints the answers that are not as due, under the sentence that asks for them. */
final class Check {
    private static int wrong = 0;
    private static int looked = 0;
    private static int sentences = 0;

    private Check() {
    }

    /** The test of one sentence of the document, or of that part of it that names a boundary. */
    static void sentence(String words, Runnable test) {
        sentences++;
        int wrongBefore = wrong;
        int lookedBefore = looked;
        try {
            test.run();
        } catch (RuntimeException | AssertionError e) {
            wrong++;
            System.out.println("  the test ended by " + e);
        }
        if (looked == lookedBefore) {
            wrong++;
            System.out.println("  the test looked at nothing");
        }
        if (wrong != wrongBefore) {
            System.out.println("^ " + (wrong - wrongBefore) + " wrong by the sentence: " + words);
        }
    }

    static void due(String call, long got, long want) {
        looked++;
        if (got != want) {
            wrong++;
            System.out.println("  " + call + " answered " + got + ", due is " + want);
        }
    }

    static void dueThat(String what, boolean holds) {
        due(what, holds ? 1 : 0, 1);
    }

    static void finish() {
        System.out.println(sentences + " sentences, " + looked + " answers looked at, "
            + wrong + " not as due");
        if (wrong != 0 || looked == 0) {
            System.exit(1);
        }
    }
}
