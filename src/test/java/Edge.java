/** Checks of boundary cases: each stands under the promise and the sentence of the document that it is of. */
final class Edge {
    static final int MAX = Integer.MAX_VALUE;
    static final int MIN = Integer.MIN_VALUE;
    private final Check check = new Check("EdgeTest");
    private final Document document = new Document();
    private String sentence = "";
    private int asked = 1;
    private int sentences;

    /** All that is asked from here on is of these words of the Terms. */
    void ofTerms(String words) {
        begin(Document.TERMS, "Terms", words);
    }

    /** All that is asked from here on is of these words of a promise. */
    void of(int promise, String words) {
        begin(promise, "Promise " + promise, words);
    }

    private void begin(int part, String name, String words) {
        endSentence();
        sentence = name + ", \"" + words + "\"";
        asked = 0;
        sentences++;
        if (document.isThere()) {
            check.due(sentence + " stands in the document", true, document.quote(part, words));
        }
    }

    private void endSentence() {
        if (asked == 0) {
            check.due(sentence + ": answers asked", true, false);
        }
    }

    void due(String call, long want, long got) {
        asked++;
        check.due(sentence + ": " + call, want, got);
    }

    void due(String call, boolean want, boolean got) {
        due(call, want ? 1 : 0, got ? 1 : 0);
    }

    /** All ten things of a place, in at()'s order. */
    void place(HumTape x, int tape, int place, int... due) {
        for (int what = 0; what < 10; what++) {
            due("at(" + tape + ", " + place + ", " + what + ")", due[what], x.at(tape, place, what));
        }
    }

    void blank(HumTape x, int tape, int place) {
        place(x, tape, place, 0, -1, -1, -1, 0, 0, 0, 0, 0, 0);
    }

    /** What fault a text has as its sort's number 0, and where; 0 and -1 for none. */
    void fault(int sort, String text, int kind, int place) {
        HumTape x = new HumTape();
        int lines = Check.tell(x, sort, 0, text);
        due("text of \"" + text + "\" is NONE", kind != 0, lines == -1);
        due("fault(0) of \"" + text + "\"", kind, x.fault(0));
        due("fault(1) of \"" + text + "\"", place, x.fault(1));
    }

    /** Whether a reader's condition is so of place 0 of a new object's tape 0. */
    void so(boolean due, String condition) {
        so(new HumTape(), due, condition, 0, false);
    }

    void so(HumTape x, boolean due, String condition, int place, boolean knew) {
        due("lines of \"" + condition + "\"", 1, Check.reader(x, 3, "whole when " + condition + ";"));
        due("\"" + condition + "\" of place " + place, due ? 4 : 0, x.says(3, 0, place, knew));
    }

    /** No word of the Terms or the promises may be without a test. */
    void finish() {
        endSentence();
        for (int part : document.parts()) {
            String left = document.unquoted(part);
            check.due("words of part " + part + " without a test: " + left, 0, left.length());
        }
        System.out.println("EdgeTest: " + sentences + " sentences");
        check.finish();
    }
}
