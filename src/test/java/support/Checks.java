/** Counts the answers that are not as due, and ends a test with exit code 1 if there were any. */
final class Checks {
    private final String test;
    private int made = 0;
    private int wrong = 0;

    Checks(String test) {
        this.test = test;
    }

    void due(String what, long got, long want) {
        made++;
        if (got != want) {
            wrong++;
            System.out.println(test + ": " + what + " answered " + got + ", due is " + want);
        }
    }

    void holds(String what, boolean answer) {
        made++;
        if (!answer) {
            wrong++;
            System.out.println(test + ": " + what);
        }
    }

    boolean isSpotless() {
        return wrong == 0;
    }

    void finish() {
        System.out.println(test + ": " + made + " answers, " + wrong + " wrong");
        if (wrong != 0 || made == 0) {
            System.exit(1);
        }
    }
}
