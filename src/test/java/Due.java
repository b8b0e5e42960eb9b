/** Tells every answer that is not the one that is due, and ends a test with exit code 1 if there was one. */
final class Due {
    static final int BEYOND = -1000000001;
    static final int NONE = -1000000002;
    static final int STATE = -1000000003;
    static final int FULL = -1000000004;
    static final int KIND = -1000000005;

    private final String test;
    private String sentence = "";
    private int asked;
    private int wrong;

    Due(String test) {
        this.test = test;
    }

    /** A new object with so many beings of each SORT. */
    static GreenPath island(int first, int second, int third) {
        GreenPath x = new GreenPath();
        x.be(0, first);
        x.be(1, second);
        x.be(2, third);
        return x;
    }

    /** The STATE of so many beings of each SORT. */
    static int state(int first, int second, int third) {
        return first * 169 + second * 13 + third;
    }

    /**
     * The words of the document that the answers from here on are due by: where they stand ("Terms", "Promise 2"), and
     * the words. SentencesTest looks whether they stand there, and whether none of the document's words is left out.
     */
    void says(String where, String words) {
        sentence = where + " (" + words + ") ";
    }

    void is(String call, long got, long want) {
        asked++;
        if (got != want) {
            tellWrong(call + " answered " + got + ", due is " + want);
        }
    }

    void is(String call, String got, String want) {
        asked++;
        if (!got.equals(want)) {
            tellWrong(call + " answered " + got + ", due is " + want);
        }
    }

    private void tellWrong(String words) {
        wrong++;
        if (wrong <= 50) {
            System.out.println(test + ": " + sentence + words);
        }
    }

    void end() {
        System.out.println(test + ": " + asked + " answers, " + wrong + " not as due");
        if (wrong != 0 || asked == 0) {
            System.exit(1);
        }
    }
}
