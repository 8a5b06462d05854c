/** Counts answers that are due and answers that are not, and tells the latter, with the sentence that they break. */
final class Check {
    private final String name;
    private String sentence = "";
    private int passed;
    private int failed;

    Check(String name) {
        this.name = name;
    }

    /** From here on the answers are due by this sentence of the document. */
    void says(String sentence) {
        this.sentence = "\"" + sentence + "\": ";
    }

    void due(String call, long got, long want) {
        due(call, String.valueOf(got), String.valueOf(want));
    }

    void due(String call, String got, String want) {
        if (got.equals(want)) {
            passed++;
        } else {
            failed++;
            System.out.println(name + ": " + sentence + call + " answered " + got + ", due is " + want);
        }
    }

    void holds(String what, boolean does) {
        due(what, does ? 1 : 0, 1);
    }

    void end() {
        System.out.println(name + ": " + passed + " passed, " + failed + " failed");
        if (failed > 0 || passed == 0) {
            System.exit(1);
        }
    }
}
