import java.util.List;

/** Answers that are due by a sentence of the document; where one is not as due, the sentence is named. */
final class Sentences {
    static final int BAD = -1, STATE = -2, FULL = -3, NONE = -9, NO = -1000000;
    static final int LEAST = Integer.MIN_VALUE, MOST = Integer.MAX_VALUE;

    private final Due due;
    private final Document document = Document.read();
    private String sentence = "no sentence";
    private int answers = 1;
    private int sentences = 0;

    Sentences(String test) {
        due = new Due(test);
    }

    /** What follows stands for these words of the document, under this heading. */
    void by(String part, String words) {
        endSentence();
        sentence = "[" + part + ": \"" + words + "\"] ";
        sentences++;
        answers = 0;
        due.is(sentence + "said by the document", document.says(part, words) ? 1 : 0, 1);
    }

    void is(String call, long got, long want) {
        answers++;
        due.is(sentence + call, got, want);
    }

    void same(String call, String got, String want) {
        answers++;
        due.is(sentence + call + ": '" + got + "' is '" + want + "'", got.equals(want) ? 1 : 0, 1);
    }

    private void endSentence() {
        due.is(sentence + "has answers", answers > 0 ? 1 : 0, 1);
    }

    void end() {
        endSentence();
        List<String> left = document.leftOut();
        for (String edge : left) {
            due.is("no test stands for " + edge, 0, 1);
        }
        System.out.println("tests for " + sentences + " sentences, " + left.size() + " boundaries without one");
        due.end();
    }
}
