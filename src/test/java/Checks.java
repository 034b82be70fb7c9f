/** Counts answers that are not as due, and ends a test with exit code 1 if there was one. */
final class Checks {
    private int wrong = 0;
    private int looked = 0;

    void due(String call, long got, long want) {
        looked++;
        if (got != want) {
            wrong++;
            System.out.println(call + " answered " + got + ", due is " + want);
        }
    }

    /** A refused call answers as told and leaves everything as it was. */
    void refused(ThreeReels x, String call, long before, long got, long want) {
        due(call, got, want);
        due("digest() after the refused " + call, x.digest(), before);
    }

    void isTrue(String what, boolean holds) {
        looked++;
        if (!holds) {
            wrong++;
            System.out.println("does not hold: " + what);
        }
    }

    int looked() {
        return looked;
    }

    void finish() {
        System.out.println(looked + " looked at, " + wrong + " wrong");
        if (wrong != 0 || looked == 0) {
            System.exit(1);
        }
    }
}
