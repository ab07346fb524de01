/** Counts answers that are not as due, prints each, and ends the test by them. */
final class Checks {
    private final String name;
    private int made;
    private int wrong;

    Checks(String name) {
        this.name = name;
    }

    void due(String call, long got, long want) {
        made++;
        if (got != want) {
            wrong++;
            System.out.println(name + ": " + call + " answered " + got + ", due is " + want);
        }
    }

    void holds(String what, boolean isSo) {
        made++;
        if (!isSo) {
            wrong++;
            System.out.println(name + ": " + what + " does not hold");
        }
    }

    void end() {
        System.out.println(name + ": " + made + " answers, " + wrong + " of them wrong");
        if (wrong > 0 || made == 0) {
            System.exit(1);
        }
    }
}
