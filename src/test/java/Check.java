/** Compares answers with what is due, prints those that differ, and ends a test. */
final class Check {
    private static final int PRINTED = 5;
    private static final long MOST_SECONDS = 400;

    private static String sentence = "";
    private static int wrongHere = 0;
    private static int wrong = 0;
    private static int asked = 0;

    static {
        Thread watch = new Thread(Check::endLate);
        watch.setDaemon(true);
        watch.start();
    }

    private Check() {
    }

    /** A call that never ends has to fail the test too, not to keep it waiting. */
    private static void endLate() {
        try {
            Thread.sleep(MOST_SECONDS * 1000);
        } catch (InterruptedException e) {
            return;
        }
        System.out.println(sentence + ": no end after " + MOST_SECONDS + " seconds");
        Runtime.getRuntime().halt(1);
    }

    /** Says which sentence of the document the next answers are about. */
    static void begin(String text) {
        sentence = text;
        wrongHere = 0;
    }

    static void due(String what, long got, long want) {
        asked++;
        if (got != want) {
            wrong++;
            wrongHere++;
            if (wrongHere <= PRINTED) {
                System.out.println("[" + sentence + "] " + what + ": " + got + ", due is " + want);
            }
        }
    }

    static void due(String what, boolean got, boolean want) {
        due(what, got ? 1 : 0, want ? 1 : 0);
    }

    static boolean anyWrong() {
        return wrong > 0;
    }

    /** Ends the program with exit code 1 if an answer was wrong. */
    static void end() {
        System.out.println(asked + " answers, " + wrong + " not as due");
        if (wrong != 0 || asked == 0) {
            System.exit(1);
        }
    }
}
