/** Counts answers that are not the ones that are due, and ends a test by them. */
final class Check {
    private final String test;
    private String sentence = "";
    private int sentences = 0;
    private int calls = 0;
    private int wrong = 0;

    Check(String test) {
        this.test = test;
    }

    /** Names the sentence of the document that the answers from here on are held against. */
    void of(String where, String words) {
        sentence = where + " \"" + words + "\": ";
        sentences++;
    }

    void due(String call, long got, long want) {
        due(call, String.valueOf(got), String.valueOf(want));
    }

    void due(String call, boolean got, boolean want) {
        due(call, got ? 1 : 0, want ? 1 : 0);
    }

    void due(String call, String got, String want) {
        calls++;
        if (!got.equals(want)) {
            wrong++;
            if (wrong <= 20) {
                System.out.println(test + ": " + sentence + call + " answered " + got + ", due is " + want);
            }
        }
    }

    int wrong() {
        return wrong;
    }

    void end() {
        String of = sentences == 0 ? "" : " of " + sentences + " sentences";
        System.out.println(test + ": " + calls + " answers" + of + ", " + wrong + " not as due");
        if (wrong != 0) {
            System.exit(1);
        }
    }
}
