import java.io.IOException;

/**
 * Runs the tests of the document's sentences. Each quotes its sentence: this looks too whether the words stand in the
 * document, in the section that the test names, and whether the terms and the promises have no sentence without a test.
 */
public final class SentencesTest {

    public static void main(String[] args) throws IOException {
        Check check = new Check();
        Sentences[] all = {new TermsSentences(check), new TextSentences(check), new LookSentences(check),
            new ActionSentences(check), new WouldBeSentences(check), new ScriptSentences(check)};
        int tests = 0;
        for (Sentences each : all) {
            each.runAll();
            tests += each.sentences().size();
        }
        lookAtQuotes(check, all);
        System.out.println(tests + " tests of sentences");
        check.finish("SentencesTest");
    }

    private static void lookAtQuotes(Check check, Sentences[] all) throws IOException {
        Document document = Document.read();
        for (Sentences each : all) {
            for (Sentences.Sentence s : each.sentences()) {
                if (!document.quote(s.section(), s.words())) {
                    check.report(s.section() + " does not say: " + s.words());
                }
            }
        }
        for (String section : document.sectionsWithSentences()) {
            String left = document.notQuoted(section);
            if (!left.isEmpty()) {
                check.report(section + " has words without a test: " + left);
            }
        }
    }
}
