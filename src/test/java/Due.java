/** Counts the answers that are not as due, and tells each of them. */
final class Due {
    private int wrong;
    private String sentence = "";

    /** The words of the document that the answers from here on are held to, and the heading they stand under. */
    void says(String heading, String words) {
        sentence = heading + ", \"" + words + "\": ";
    }

    void is(String call, long got, long want) {
        if (got != want) {
            wrong++;
            System.out.println(sentence + call + " answered " + got + ", due is " + want);
        }
    }

    /** A refusal that is told by refused() alone, the answer being 0. */
    void zeroFor(CustomsYard yard, String call, long got, int why) {
        is(call, got, 0);
        is(call + ", then refused()", yard.refused(), why);
    }

    /** A refusal that is the answer, and is told by refused() too. */
    void refusal(CustomsYard yard, String call, long got, int why) {
        is(call, got, why);
        is(call + ", then refused()", yard.refused(), why);
    }

    /** An answer that is no refusal. */
    void answer(CustomsYard yard, String call, long got, long want) {
        is(call, got, want);
        is(call + ", then refused()", yard.refused(), 0);
    }

    void end() {
        System.out.println(wrong == 0 ? "all answers are as due" : wrong + " answers are not as due");
        if (wrong != 0) {
            System.exit(1);
        }
    }
}
