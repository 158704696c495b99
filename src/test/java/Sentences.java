/**
 * Tests of single sentences of the document. What is told of a fault begins with the promise and
 * the words of the sentence.
 */
final class Sentences {
    private final Check check = new Check();
    private String sentence = "";
    private int tested;

    interface Pond {
        CarvedRinks made();
    }

    interface Use {
        long answer(CarvedRinks c);
    }

    void test(String promise, String words, Runnable body) {
        sentence = promise + ", \"" + words + "\": ";
        tested++;
        try {
            body.run();
        } catch (RuntimeException thrown) {
            check.tell(sentence + "throws " + thrown);
        }
    }

    void due(String what, long due, long got) {
        check.same(sentence + what, due, got);
    }

    void dueText(String what, String due, String got) {
        check.same(sentence + what, due, got);
    }

    /** A call that is refused with an exception, and changes nothing of such a pond. */
    void refused(String exception, String what, Pond pond, Use use) {
        CarvedRinks c = pond.made();
        check.same(sentence + what, "throws." + exception, Check.answerOf(() -> use.answer(c)));
        check.same(sentence + what + ", the pond then", Ponds.traceOf(pond.made()), Ponds.traceOf(c));
    }

    /** A call that throws nothing, and changes nothing of such a pond. */
    void harmless(String what, Pond pond, Use use) {
        CarvedRinks c = pond.made();
        use.answer(c);
        check.same(sentence + what + ", the pond then", Ponds.traceOf(pond.made()), Ponds.traceOf(c));
    }

    void end() {
        System.out.println(tested + " sentences tested");
        check.end();
    }
}
