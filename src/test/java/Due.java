/** Compares answers with those that are due, and ends the test's run. */
final class Due {
    private final Document document = new Document();
    private String sentence = "";
    private int asked;
    private int wrong;

    /** What follows holds to these words, which stand under this heading of the document. */
    void says(String heading, String words) {
        sentence = heading + ", \"" + words + "\": ";
        yes("the document says so", document.says(heading, words));
    }

    void is(String call, long got, long want) {
        asked++;
        if (got != want) {
            wrong++;
            System.out.println(sentence + call + " answered " + got + ", due is " + want);
        }
    }

    void yes(String call, boolean got) {
        is(call, got ? 1 : 0, 1);
    }

    void no(String call, boolean got) {
        is(call, got ? 1 : 0, 0);
    }

    void end() {
        System.out.println(asked + " answers, " + wrong + " not as due");
        if (wrong != 0) {
            System.exit(1);
        }
    }

    /** Lets hours go by, in as many calls as it takes. */
    static void pass(BillWatch x, int hours) {
        int left = hours;
        while (left > 0) {
            int step = Math.min(48, left);
            if (x.hours(step) == BillWatch.NONE) {
                throw new IllegalStateException("no " + step + " hours more");
            }
            left -= step;
        }
    }
}
