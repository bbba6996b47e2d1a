import java.util.Locale;

/** Counts and prints the answers that are not the ones that are due. */
final class Check {
    private int checked = 0;
    private int wrong = 0;

    void due(String what, int got, int want) {
        checked++;
        if (got != want) {
            wrong++;
            System.out.println(what + " answered " + got + ", due is " + want);
        }
    }

    void holds(String what, boolean holds) {
        checked++;
        if (!holds) {
            wrong++;
            System.out.println(what + " does not hold");
        }
    }

    int wrong() {
        return wrong;
    }

    /** Ends the program with exit code 1 if an answer was wrong. */
    void finish() {
        System.out.println(String.format(Locale.ROOT, "%d answers checked, %d not as due", checked, wrong));
        if (wrong != 0 || checked == 0) {
            System.exit(1);
        }
    }
}
