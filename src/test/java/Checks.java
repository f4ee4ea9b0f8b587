/** Compares answers with those that are due, and tells how many are wrong. */
final class Checks {
    private final String name;
    private String sentence = "";
    private int done = 0;
    private int wrong = 0;

    Checks(String name) {
        this.name = name;
    }

    /** The document's words that the checks from here on are about. */
    void at(String words) {
        sentence = " at '" + words + "'";
    }

    void due(String what, int got, int want) {
        done++;
        if (got != want) {
            wrong++;
            System.out.println(name + sentence + ": " + what + " answered " + got + ", due is " + want);
        }
    }

    void holds(String what, boolean so) {
        done++;
        if (!so) {
            wrong++;
            System.out.println(name + sentence + ": " + what + " does not hold");
        }
    }

    boolean isClean() {
        return wrong == 0;
    }

    void end() {
        System.out.println(name + ": " + done + " checks, " + wrong + " wrong");
        if (wrong != 0 || done == 0) {
            System.exit(1);
        }
    }
}
