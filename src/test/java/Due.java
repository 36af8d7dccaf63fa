import java.util.Arrays;

/** Counts the answers that are not the ones due; one object for each test. */
final class Due {
    static final int INVALID = -2000000001;
    static final int IMPOSSIBLE = -2000000002;
    static final int FULL = -2000000003;
    static final int MISSING = -2000000004;

    private int wrong = 0;
    private String sentence = "";

    /** Says which sentence of the document the answers behind it belong to. */
    void sentence(String words) {
        sentence = "\"" + words + "\": ";
    }

    void is(String call, long got, long want) {
        if (got != want) {
            wrong++;
            System.out.println(sentence + call + " answered " + got + ", due is " + want);
        }
    }

    void same(String call, String got, String want) {
        if (!got.equals(want)) {
            wrong++;
            System.out.println(sentence + call + ": [" + got + "], due is [" + want + "]");
        }
    }

    /** Answers in a row: the answers to be compared with those that are due. */
    void row(String call, int[] got, int... want) {
        same(call, Arrays.toString(got), Arrays.toString(want));
    }

    boolean fine() {
        return wrong == 0;
    }

    void end() {
        if (!fine()) {
            System.out.println(wrong + " answers are not as due");
            System.exit(1);
        }
    }

    static void typeAll(BaroRuns x, String text) {
        for (int i = 0; i < text.length(); i++) {
            x.type(text.charAt(i));
        }
    }

    /** All counts in one text, to see in one row that a call changed nothing or just what it should. */
    static String counts(BaroRuns x) {
        StringBuilder all = new StringBuilder();
        for (int what = 0; what <= 13; what++) {
            all.append(x.count(what)).append(' ');
        }
        return all.toString().trim();
    }
}
