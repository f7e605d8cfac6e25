import java.util.concurrent.Callable;

/** Counts and prints the answers that are not as due; a test ends by calling end(). */
final class Checks {
    /** A call without an answer. */
    interface Step {
        void run();
    }

    private int wrong = 0;
    private int made = 0;
    private int sentences = 0;
    private String sentence = "";

    /** The test of one sentence of the document: it stands alone, and the sentence is told with what is wrong. */
    void sentence(String words, Step test) {
        int before = made;
        sentence = "\"" + words + "\": ";
        sentences++;
        try {
            test.run();
        } catch (RuntimeException e) {
            tell("the test was ended by " + e);
        }
        due("calls were looked at", made > before);
        sentence = "";
    }

    void due(String what, long got, long want) {
        made++;
        if (got != want) {
            tell(what + " answered " + got + ", due is " + want);
        }
    }

    void due(String what, boolean holds) {
        due(what, holds ? 1 : 0, 1);
    }

    void dueText(String what, String got, String want) {
        made++;
        if (!got.equals(want)) {
            tell(what + " answered " + got + ", due is " + want);
        }
    }

    void refused(String what, Class<? extends Exception> want, Step step) {
        dueText(what, answer(() -> { step.run(); return 0L; }), thrown(want));
    }

    void done(String what, Step step) {
        dueText(what, answer(() -> { step.run(); return 0L; }), "0");
    }

    /** What a call answers, or "throws." and the name of what it throws. */
    static String answer(Callable<? extends Number> call) {
        try {
            return String.valueOf(call.call().longValue());
        } catch (Exception e) {
            return thrown(e.getClass());
        }
    }

    static String thrown(Class<? extends Exception> type) {
        return "throws." + type.getSimpleName();
    }

    private void tell(String line) {
        wrong++;
        if (wrong <= 50) {
            System.out.println(sentence + line);
        }
    }

    void end(String test) {
        String of = sentences == 0 ? "" : sentences + " sentences, ";
        System.out.println(test + ": " + of + made + " answers, " + wrong + " not as due");
        if (wrong != 0) {
            System.exit(1);
        }
    }
}
