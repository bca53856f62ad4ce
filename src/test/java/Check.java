/** Counts the answers that are not as due and ends the test accordingly. */
final class Check {
    private int asked = 0;
    private int wrong = 0;

    void due(String what, long got, long want) {
        asked++;
        if (got != want) {
            wrong++;
            System.out.println(what + " answered " + got + ", due is " + want);
        }
    }

    void due(String what, boolean got, boolean want) {
        due(what, got ? 1 : 0, want ? 1 : 0);
    }

    /** For a call that must change nothing: what the object told of itself before it and after it. */
    void same(String what, String before, String after) {
        asked++;
        if (!before.equals(after)) {
            wrong++;
            System.out.println(what + " changed the object from");
            System.out.println("  " + before);
            System.out.println("  to");
            System.out.println("  " + after);
        }
    }

    boolean allAsDue() {
        return wrong == 0;
    }

    /** A test that looked at nothing has not passed. */
    boolean passed() {
        return wrong == 0 && asked > 0;
    }

    void end() {
        System.out.println(asked + " answers looked at, " + wrong + " not as due");
        if (!passed()) {
            System.exit(1);
        }
    }
}
