/** Counts what is not as due; every test of the project closes by it. */
final class Due {
    static final long LOW = -1000000000L;
    static final long BEYOND = LOW - 1;
    static final long NONE = LOW - 2;
    static final long STATE = LOW - 3;
    static final long FULL = LOW - 4;
    static final long KIND = LOW - 5;
    static final long PARTED = LOW - 6;

    private final String test;
    private String sentence = "";
    private int asked = 0;
    private int wrong = 0;

    Due(String test) {
        this.test = test;
    }

    /** What is asked from here on is of a sentence of the document. */
    void of(String itsSentence) {
        sentence = " (" + itsSentence + ")";
    }

    void is(long want, long got, String what) {
        asked++;
        if (want != got) {
            wrong++;
            System.out.println(test + sentence + ": " + what + " answered " + got + ", due is " + want);
        }
    }

    void holds(boolean so, String what) {
        is(1, so ? 1 : 0, what);
    }

    int asked() {
        return asked;
    }

    int wrong() {
        return wrong;
    }

    void close() {
        System.out.println(test + ": " + asked + " asked, " + wrong + " wrong");
        if (wrong > 0 || asked == 0) {
            System.exit(1);
        }
    }

    /** Feeds a whole text to THE TAPE and makes it the TEXT of a USE. */
    static int tells(AnswerPass pass, int use, String text) {
        feeds(pass, text);
        return pass.text(use);
    }

    static void feeds(AnswerPass pass, String text) {
        for (int i = 0; i < text.length(); i++) {
            pass.feed(text.charAt(i), 1);
        }
    }
}
