import java.io.IOException;
import java.lang.reflect.InvocationTargetException;
import java.lang.reflect.Method;
import java.util.Arrays;
import java.util.Comparator;
import java.util.Set;

/**
 * Runs the tests of single sentences, and sees to it that each of them quotes the document as it
 * is, and that no words of the document are without a test.
 */
public final class SentencesTest {
    private static final Class<?>[] HOLDERS = {FormulaSentences.class, TrailSentences.class, AnalysisSentences.class,
        TextSentences.class, ActionSentences.class, UndoSentences.class, ExceptionSentences.class, ModelSentences.class,
        EliminationSentences.class, SolveSentences.class, SlotSentences.class};

    /** ExamplesTest and FaceTest look at the first four; the last says what is not promised. */
    private static final Set<String> ELSEWHERE = Set.of("The public face", "Examples", "The constants", "Description",
            "Not promised");

    private static final Check CHECK = new Check();

    public static void main(String[] args) throws IOException, IllegalAccessException {
        Document document = new Document();
        int tests = 0;
        int wrong = 0;
        for (Class<?> holder : HOLDERS) {
            Method[] methods = holder.getDeclaredMethods();
            Arrays.sort(methods, Comparator.comparing(Method::getName));
            for (Method m : methods) {
                Sentence sentence = m.getAnnotation(Sentence.class);
                if (sentence != null) {
                    wrong += run(document, m, sentence);
                    tests++;
                }
            }
        }
        for (String section : document.sections()) {
            if (!ELSEWHERE.contains(section)) {
                CHECK.due("the words of \"" + section + "\" without a test:", document.unquoted(section), "");
            }
        }
        System.out.println(tests + " sentences tested");
        CHECK.due("the wrong answers of them", wrong, 0);
        CHECK.end();
    }

    private static int run(Document document, Method m, Sentence sentence) throws IllegalAccessException {
        String place = sentence.of() + ", \"" + sentence.says() + "\" (" + m.getName() + "): ";
        Check check = new Check(place);
        try {
            m.invoke(null, check);
        } catch (InvocationTargetException e) {
            check.due("the test", e.getCause().toString(), "at its end");
        }
        CHECK.due(place + "makes checks", check.made() > 0, true);
        CHECK.due(place + "is in the document", document.quote(sentence.of(), sentence.says()), true);
        return check.wrong();
    }
}
