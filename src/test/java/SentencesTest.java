import java.io.IOException;
import java.lang.reflect.Method;
import java.util.ArrayList;
import java.util.List;

/** Every sentence of the document's terms and promises has a test that quotes it. */
public final class SentencesTest {
    private static final Class<?>[] TESTS = {DishesEdgesTest.class, BookEdgesTest.class, MealsEdgesTest.class,
        TextEdgesTest.class, SheetsEdgesTest.class};

    public static void main(String[] args) throws IOException {
        Document document = new Document();
        int sentences = 0;
        int without = 0;
        for (int promise = 0; promise <= Document.PROMISES; promise++) {
            List<String> quotes = quotesOf(promise);
            for (String sentence : document.sentences(promise)) {
                sentences++;
                if (!isQuoted(sentence, quotes)) {
                    without++;
                    System.out.println("promise " + promise + " has no test of: " + sentence);
                }
            }
        }
        System.out.println(sentences + " sentences, " + without + " without a test");
        // A document that is cut wrongly must not pass for one whose sentences are all tested.
        if (without != 0 || sentences < 140) {
            System.exit(1);
        }
    }

    private static List<String> quotesOf(int promise) {
        List<String> quotes = new ArrayList<>();
        for (Class<?> tests : TESTS) {
            for (Method test : Bench.testsOf(tests)) {
                Words words = test.getAnnotation(Words.class);
                if (words.promise() == promise) {
                    quotes.add(words.say());
                }
            }
        }
        return quotes;
    }

    /** Whether a quote lies in the sentence, or is of several, this among them. */
    private static boolean isQuoted(String sentence, List<String> quotes) {
        for (String quote : quotes) {
            if (sentence.contains(quote) || quote.contains(sentence)) {
                return true;
            }
        }
        return false;
    }
}
