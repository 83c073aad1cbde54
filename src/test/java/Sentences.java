/** Tests of one sentence of the document each; an answer that is not as due is told with the sentence. */
final class Sentences {
    private final Due due = new Due();
    private String sentence;

    void test(String words, Runnable test) {
        sentence = words;
        test.run();
    }

    Calls on(LeastCost object) {
        return new Calls(due, sentence, object);
    }

    void finish() {
        due.finish();
    }
}
