/** What a test counts: answers that are not as due are printed, and end it with exit code 1. */
final class Check {
    private final String name;
    private int wrong;
    private int looked;

    Check(String name) {
        this.name = name;
    }

    void due(String call, long got, long want) {
        looked++;
        if (got != want) {
            wrong++;
            System.out.println(name + ": " + call + " answered " + got + ", due is " + want);
        }
    }

    void end() {
        System.out.println(name + ": " + looked + " answers looked at, " + wrong + " not as due");
        if (wrong != 0 || looked == 0) {
            System.exit(1);
        }
    }

    /** Feeds a text, sign by sign. */
    static void feed(RepairGroups x, String text) {
        for (int i = 0; i < text.length(); i++) {
            x.feed(text.charAt(i));
        }
    }

    /** A PARITY by its text. */
    static int parity(RepairGroups x, int kind, int v, String text) {
        feed(x, text);
        return x.parity(kind, v);
    }
}
