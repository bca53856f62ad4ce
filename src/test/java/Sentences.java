/** Holds the class against single sentences of the document, each by a test of its own. */
final class Sentences {
    interface Test {
        void run(Check check);
    }

    private String section = "";
    private int held = 0;
    private int broken = 0;

    /** The sentences that follow stand in this section of the document. */
    Sentences of(String name) {
        section = name;
        return this;
    }

    /** The sentence, or the part of it that names the case, is written as it stands in the document. */
    void holds(String sentence, Test test) {
        Check check = new Check();
        boolean ended = endsByItself(test, check);
        if (ended && check.passed()) {
            held++;
        } else {
            broken++;
            System.out.println("BROKEN: " + section + ": " + sentence);
        }
    }

    /** A test that throws must not keep the sentences after it from being looked at. */
    private static boolean endsByItself(Test test, Check check) {
        try {
            test.run(check);
            return true;
        } catch (RuntimeException | Error e) {
            System.out.println("thrown: " + e);
            return false;
        }
    }

    void end() {
        System.out.println(held + " sentences hold, " + broken + " are broken");
        if (broken != 0 || held == 0) {
            System.exit(1);
        }
    }
}
