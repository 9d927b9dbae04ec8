/** Counts the answers that are not as due, and says which; a test ends with exit code 1 if there was one. */
final class Check {
    private final String test;
    private int right, wrong;

    Check(String test) {
        this.test = test;
    }

    void due(String what, int got, int want) {
        if (got == want) {
            right++;
        } else {
            wrong++;
            System.out.println(test + ": " + what + " answered " + got + ", due is " + want);
        }
    }

    void due(String what, boolean got, boolean want) {
        due(what, got ? 1 : 0, want ? 1 : 0);
    }

    void end() {
        System.out.println(test + ": " + right + " as due, " + wrong + " not as due");
        if (wrong > 0) {
            System.exit(1);
        }
    }
}
