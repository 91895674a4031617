/** Counts answers that are not as due and tells them. */
final class Check {
    static final String OUT = "throws.IndexOutOfBoundsException";
    static final String ARGUMENT = "throws.IllegalArgumentException";
    static final String STATE = "throws.IllegalStateException";

    interface Call {
        Object answer();
    }

    private int asked = 0;
    private int wrong = 0;
    private String sentence = "";

    static String answerOf(Call call) {
        try {
            return String.valueOf(call.answer());
        } catch (RuntimeException e) {
            return "throws." + e.getClass().getSimpleName();
        }
    }

    /** The sentence of the document that the answers from here on are held against. */
    void says(String words) {
        sentence = "\"" + words + "\": ";
    }

    void due(String what, Object want, Call call) {
        String got = answerOf(call);
        asked++;
        if (!got.equals(String.valueOf(want))) {
            wrong++;
            System.out.println(sentence + what + ": answered " + got + ", due is " + want);
        }
    }

    boolean isClean() {
        return wrong == 0;
    }

    void end(String name) {
        System.out.println(name + ": " + asked + " answers, " + wrong + " not as due");
        if (wrong != 0 || asked == 0) {
            System.exit(1);
        }
    }
}
