/** Counts answers that are not as due, prints each, and ends the test by them. */
final class Checks {
    private final String name;
    private String sentence;
    private int madeOfSentence;
    private int made;
    private int wrong;

    Checks(String name) {
        this.name = name;
        sentence = "";
    }

    /** What follows tests these words of the document; one that nothing tests is a fault. */
    void sentence(String words) {
        endSentence();
        sentence = " [" + words + "]";
        madeOfSentence = 0;
    }

    void due(String call, long got, long want) {
        made++;
        madeOfSentence++;
        if (got != want) {
            wrong++;
            System.out.println(name + sentence + ": " + call + " answered " + got + ", due is " + want);
        }
    }

    void holds(String what, boolean isSo) {
        made++;
        madeOfSentence++;
        if (!isSo) {
            wrong++;
            System.out.println(name + sentence + ": " + what + " does not hold");
        }
    }

    void end() {
        endSentence();
        System.out.println(name + ": " + made + " answers, " + wrong + " of them wrong");
        if (wrong > 0 || made == 0) {
            System.exit(1);
        }
    }

    private void endSentence() {
        if (!sentence.isEmpty() && madeOfSentence == 0) {
            wrong++;
            System.out.println(name + sentence + ": nothing tests it");
        }
    }
}
