/** Counts the answers that are not as due, and prints each of them with the sentence that asks for it. */
final class Dues {
    private int wrong;
    private int asked;
    private String sentence = "";

    /** The test of one sentence of the document: it fails also when it asks nothing, or when a call throws. */
    void sentence(String words, Runnable test) {
        int before = asked;
        sentence = "[" + words + "] ";
        try {
            test.run();
            due("the number of answers asked for is 0", asked == before, false);
        } catch (RuntimeException e) {
            due("a call throws " + e, true, false);
        }
        sentence = "";
    }

    void due(String call, long got, long want) {
        asked++;
        if (got != want) {
            wrong++;
            System.out.println(sentence + call + " answered " + got + ", due is " + want);
        }
    }

    void due(String call, boolean got, boolean want) {
        due(call, got ? 1 : 0, want ? 1 : 0);
    }

    int asked() {
        return asked;
    }

    int wrong() {
        return wrong;
    }

    void end() {
        System.out.println(asked + " answers, " + wrong + " not as due");
        if (wrong != 0 || asked == 0) {
            System.exit(1);
        }
    }
}
