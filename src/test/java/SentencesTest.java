import java.io.IOException;
import java.lang.reflect.InvocationTargetException;
import java.lang.reflect.Method;
import java.nio.file.Path;
import java.util.ArrayList;
import java.util.Comparator;
import java.util.List;

/** Runs a test for each sentence of the document, and tells the sentences that have none. */
public final class SentencesTest {
    private static final List<Class<?>> TESTS = List.of(TermsSentences.class, SlotSentences.class,
            ThereIsSentences.class, CallSentences.class, AskedSentences.class);

    public static void main(String[] args)
            throws IOException, IllegalAccessException, InvocationTargetException {
        Due due = new Due();
        Document document = new Document(Path.of("..", "shared", "DOC.md"));
        List<Method> tests = inOrder();
        for (Method test : tests) {
            Says says = test.getAnnotation(Says.class);
            due.about("promise " + says.promise() + ", " + test.getName() + ": ");
            if (!document.claim(says.promise(), says.value())) {
                due.tell("the document does not say \"" + says.value() + "\" there");
            }
            test.invoke(null, due);
        }
        due.about("no test for ");
        for (String words : document.unclaimed()) {
            due.tell(words);
        }
        System.out.println(tests.size() + " tests of sentences");
        due.close();
    }

    private static List<Method> inOrder() {
        List<Method> tests = new ArrayList<>();
        for (Class<?> group : TESTS) {
            for (Method method : group.getDeclaredMethods()) {
                if (method.isAnnotationPresent(Says.class)) {
                    tests.add(method);
                }
            }
        }
        tests.sort(Comparator.comparing(Method::getName));
        return tests;
    }
}
