/** Counts the answers that were asked for, and tells each that is not the one that is due. */
class Tally {
    private static final int MOST_TOLD = 40;

    private String subject = "";
    private int asked = 0;
    private int wrong = 0;

    /** What the answers from here on are about. */
    void about(String words) {
        subject = words;
    }

    void due(String calls, long want, long got) {
        asked++;
        if (want != got) {
            fault(calls + " answered " + got + ", due is " + want);
        }
    }

    void due(String calls, String want, String got) {
        asked++;
        if (!want.equals(got)) {
            fault(calls + " answered " + got + ", due is " + want);
        }
    }

    void fault(String what) {
        wrong++;
        if (wrong <= MOST_TOLD) {
            System.out.println("[" + subject + "] " + what);
        }
    }

    /** Ends the program with 1 if an answer was wrong. */
    void end() {
        System.out.println(asked + " answers, " + wrong + " not as due");
        if (wrong != 0) {
            System.exit(1);
        }
    }
}
