import java.lang.reflect.InvocationTargetException;
import java.lang.reflect.Method;
import java.util.ArrayList;
import java.util.Comparator;
import java.util.List;

/** Each sentence of the document that names a boundary case: one test of its own, told by name. */
public final class BoundaryTest {
    private static final List<Class<?>> TESTS = List.of(TermSentences.class, ExpressionSentences.class,
        SecretTermSentences.class, HistoryTermSentences.class, LayerSentences.class, FlatSentences.class,
        SecretSentences.class, TextSentences.class, MapSentences.class, FollowSentences.class);

    /** What stands beside the sentences, and names no boundary case: the face (see LanguageTest) and headings. */
    private static final List<String> PLAIN = List.of("`[^`]*\\)`:", "`[^`]*`: Follows a key from value to value\\.",
        "Errors are reported by the constants below\\.", "The constants:", "Ahead of the calls .* the interface says: .*");

    public static void main(String[] args) throws Exception {
        Document document = new Document();
        if (Document.isMissing()) {
            System.out.println("BoundaryTest: no document here, so its words are not compared with those of the tests");
        }
        List<Method> tests = tests(document);
        for (Method test : tests) {
            Sentence sentence = test.getAnnotation(Sentence.class);
            Check.due("the document says so: " + sentence, document.name(sentence));
            run(test, sentence);
        }
        List<String> unnamed = document.unnamed(PLAIN);
        unnamed.forEach(piece -> System.out.println("no test names: " + piece));
        Check.due("sentences without a test", unnamed.size(), 0);
        System.out.println("BoundaryTest: " + tests.size() + " sentences");
        Check.end("BoundaryTest");
    }

    /** All of them, in the order of the document. */
    static List<Method> tests(Document document) {
        List<Method> all = new ArrayList<>();
        for (Class<?> type : TESTS) {
            for (Method method : type.getDeclaredMethods()) {
                if (method.isAnnotationPresent(Sentence.class)) {
                    all.add(method);
                }
            }
        }
        all.sort(Comparator.<Method>comparingInt(test -> document.place(test.getAnnotation(Sentence.class)))
            .thenComparing(Method::getName));
        return all;
    }

    /** For src/mutants: all tests by their names. */
    static List<String> names() throws Exception {
        return tests(new Document()).stream().map(Method::getName).toList();
    }

    /** For src/mutants: whether one test passes. */
    static boolean passes(String name) throws Exception {
        int wrong = Check.wrong();
        for (Method test : tests(new Document())) {
            if (test.getName().equals(name)) {
                call(test);
                return Check.wrong() == wrong;
            }
        }
        throw new IllegalArgumentException("no test " + name);
    }

    private static void call(Method test) throws IllegalAccessException {
        try {
            test.invoke(null);
        } catch (InvocationTargetException e) {
            Check.due(test.getName() + " threw " + e.getCause(), false);
        }
    }

    private static void run(Method test, Sentence sentence) throws Exception {
        int asked = Check.asked();
        int wrong = Check.wrong();
        call(test);
        String result = Check.wrong() == wrong ? "ok" : "FAILED";
        System.out.println(result + " | " + sentence.of() + " | " + sentence.says()
            + " | " + test.getName() + ", " + (Check.asked() - asked) + " answers");
        Check.due(test.getName() + " asks something", Check.asked() > asked);
    }
}
