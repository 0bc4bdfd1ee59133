/** What a test counts: answers that are not as due are printed, and end it with exit code 1. */
final class Check {
    private final String name;
    private String sentence = "";
    private int sentences;
    private int lookedAhead;
    private int wrong;
    private int looked;

    Check(String name) {
        this.name = name;
    }

    /** What comes next is the test of these words of the document. */
    void sentence(String words) {
        endSentence();
        sentence = words + ": ";
        sentences++;
        lookedAhead = looked;
    }

    /** A sentence that no answer is looked at for has no test. */
    private void endSentence() {
        if (!sentence.isEmpty() && looked == lookedAhead) {
            wrong++;
            System.out.println(name + ": " + sentence + "nothing is looked at");
        }
        sentence = "";
    }

    void due(String call, long got, long want) {
        looked++;
        if (got != want) {
            wrong++;
            System.out.println(name + ": " + sentence + call + " answered " + got + ", due is " + want);
        }
    }

    void yes(String what, boolean isSo) {
        due(what, isSo ? 1 : 0, 1);
    }

    void end() {
        endSentence();
        String of = sentences > 0 ? sentences + " sentences, " : "";
        System.out.println(name + ": " + of + looked + " answers looked at, " + wrong + " not as due");
        if (wrong != 0 || looked == 0) {
            System.exit(1);
        }
    }

    /** Feeds a text, sign by sign. */
    static void feed(RepairGroups x, String text) {
        for (int i = 0; i < text.length(); i++) {
            x.feed(text.charAt(i));
        }
    }

    /** A PARITY by its text. */
    static int parity(RepairGroups x, int kind, int v, String text) {
        feed(x, text);
        return x.parity(kind, v);
    }

    /** Numbers that are not low .. high: the first on both sides, the least and the greatest int, and some between. */
    static int[] outside(int low, int high) {
        return new int[] {low - 1, high + 1, Integer.MIN_VALUE, Integer.MAX_VALUE, Integer.MIN_VALUE + high,
            low - 256, high + 256, low - 65536, high + 65536};
    }
}
