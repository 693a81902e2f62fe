/** Counts the answers that are not the ones due, and ends the test with them. */
final class Checks {
    private static final int MOST_PRINTED = 40;

    private int done = 0;
    private int wrong = 0;

    void due(String what, long got, long want) {
        done++;
        if (got != want) {
            wrong++;
            if (wrong <= MOST_PRINTED) {
                System.out.println(what + " answered " + got + ", due is " + want);
            }
        }
    }

    void due(String what, boolean got, boolean want) {
        due(what, got ? 1 : 0, want ? 1 : 0);
    }

    void due(String what, String got, String want) {
        due(what + " [" + got + "], due is [" + want + "]: same", got.equals(want), true);
    }

    boolean hasWrong() {
        return wrong > 0;
    }

    void end() {
        System.out.println(done + " answers looked at, " + wrong + " not as due");
        if (wrong > 0 || done == 0) {
            System.exit(1);
        }
    }
}
