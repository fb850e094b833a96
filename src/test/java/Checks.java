/** Counts and prints the answers that are not as due, each with the document's sentence that it tests. */
final class Checks {
    interface Call {
        void run();
    }

    private final Document document = new Document();
    private String under = "";
    private int doneBefore;
    private int wrong;
    private int done;

    /** What follows tests these words of the document, which stand in that section; the words before had a test. */
    void sentence(String section, String words) {
        endSentence();
        under = "[" + section + ": \"" + words + "\"] ";
        if (!document.says(section, words)) {
            tellWrong("the document does not say that there");
        }
        doneBefore = done;
    }

    void due(String what, long got, long want) {
        dueText(what, String.valueOf(got), String.valueOf(want));
    }

    void dueFloat(String what, float got, float want) {
        dueText(what, String.valueOf(got), String.valueOf(want));
    }

    void dueText(String what, String got, String want) {
        done++;
        if (!got.equals(want)) {
            tellWrong(what + " answered " + got + ", due is " + want);
        }
    }

    void dueThrow(String what, Class<? extends RuntimeException> want, Call call) {
        dueText(what, thrownBy(call), want.getName());
    }

    void dueNoThrow(String what, Call call) {
        dueText(what, thrownBy(call), "nothing thrown");
    }

    static String thrownBy(Call call) {
        try {
            call.run();
            return "nothing thrown";
        } catch (RuntimeException e) {
            return e.getClass().getName();
        }
    }

    void end(String name) {
        endSentence();
        System.out.println(name + ": " + done + " answers looked at, " + wrong + " not as due");
        if (wrong != 0 || done == 0) {
            System.exit(1);
        }
    }

    private void endSentence() {
        if (!under.isEmpty() && done == doneBefore) {
            tellWrong("nothing was looked at");
        }
    }

    private void tellWrong(String text) {
        wrong++;
        System.out.println(under + text);
    }
}
