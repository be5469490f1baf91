/** Counts answers that are not as due, and ends a test with what it counted. */
final class Check {
    private final String test;
    private String words = "";
    private int sentences = 0;
    private int askedBefore = 0;
    private int asked = 0;
    private int wrong = 0;

    Check(String test) {
        this.test = test;
    }

    /**
     * The words of the document by which the answers that follow are due: a promise's with its number
     * before them, three dots for words left out. DocumentTest looks for them in the document.
     */
    void sentence(String quoted) {
        noSentence();
        words = " [" + quoted + "]";
        sentences++;
    }

    /** The same, with the case that is looked at. */
    void sentence(String quoted, String here) {
        sentence(quoted);
        words = " [" + quoted + ", here: " + here + "]";
    }

    /** What follows is due by no words of the document. */
    void noSentence() {
        if (!words.isEmpty() && asked == askedBefore) {
            wrong++;
            System.out.println(test + words + ": nothing was asked by these words");
        }
        askedBefore = asked;
        words = "";
    }

    void due(String call, long got, long want) {
        asked++;
        if (got != want) {
            wrong++;
            System.out.println(test + words + ": " + call + " answered " + got + ", due is " + want);
        }
    }

    void due(String call, boolean got, boolean want) {
        due(call, got ? 1 : 0, want ? 1 : 0);
    }

    int wrong() {
        return wrong;
    }

    void end() {
        noSentence();
        String told = sentences == 0 ? "" : sentences + " sentences, ";
        System.out.println(test + ": " + told + asked + " answers, " + wrong + " not as due");
        if (wrong != 0) {
            System.exit(1);
        }
    }
}
