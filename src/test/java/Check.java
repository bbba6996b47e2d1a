import java.util.Locale;

/** Counts and prints the answers that are not the ones that are due. */
final class Check {
    private static final int LIMIT_IN_SECONDS = 300;

    private String sentence = "";
    private boolean sentenceChecked = true;
    private int checked = 0;
    private int wrong = 0;

    Check() {
        // A call that does not end must fail its test and not hold up all tests.
        Thread watch = new Thread(Check::endLate);
        watch.setDaemon(true);
        watch.start();
        Thread.setDefaultUncaughtExceptionHandler((thread, thrown) -> endThrown(thrown));
    }

    /** A call that throws belongs to the sentence that was being checked. */
    private void endThrown(Throwable thrown) {
        System.out.println(sentence + "a call threw " + thrown);
        thrown.printStackTrace();
        System.out.flush();
        Runtime.getRuntime().halt(1);
    }

    private static void endLate() {
        try {
            Thread.sleep(LIMIT_IN_SECONDS * 1000L);
        } catch (InterruptedException e) {
            return;
        }
        System.out.println("a call does not end");
        System.out.flush();
        Runtime.getRuntime().halt(1);
    }

    /** The checks from here on belong to these words of the document. */
    void sentence(String words) {
        closeSentence();
        sentence = words + ": ";
        sentenceChecked = false;
    }

    private void closeSentence() {
        if (!sentenceChecked) {
            wrong++;
            System.out.println(sentence + "nothing was checked");
        }
    }

    void due(String what, int got, int want) {
        holds(what + " answered " + got + ", due is " + want, got == want, "");
    }

    void holds(String what, boolean holds) {
        holds(what, holds, " does not hold");
    }

    private void holds(String what, boolean holds, String complaint) {
        checked++;
        sentenceChecked = true;
        if (!holds) {
            wrong++;
            System.out.println(sentence + what + complaint);
        }
    }

    int wrong() {
        return wrong;
    }

    /** Ends the program with exit code 1 if an answer was wrong. */
    void finish() {
        closeSentence();
        System.out.println(String.format(Locale.ROOT, "%d answers checked, %d not as due", checked, wrong));
        if (wrong != 0 || checked == 0) {
            System.exit(1);
        }
    }
}
