import java.lang.reflect.InvocationTargetException;
import java.lang.reflect.Method;
import java.util.ArrayList;
import java.util.Comparator;
import java.util.List;

/** Runs the tests of a class that stand for a sentence of the document each. */
final class Boundaries {
    static final List<Class<?>> TESTS = List.of(SlideBoundariesTest.class, BurningBoundariesTest.class,
        ShowBoundariesTest.class, LoadingBoundariesTest.class, TickBoundariesTest.class, SettingBoundariesTest.class,
        TextBoundariesTest.class, StateBoundariesTest.class, WouldBeBoundariesTest.class, AccountBoundariesTest.class);

    private Boundaries() {
    }

    static List<Method> testsOf(Class<?> type) {
        List<Method> tests = new ArrayList<>();
        for (Method method : type.getDeclaredMethods()) {
            if (method.isAnnotationPresent(Says.class)) {
                tests.add(method);
            }
        }
        tests.sort(Comparator.comparingInt((Method m) -> m.getAnnotation(Says.class).promise())
            .thenComparing(Method::getName));
        return tests;
    }

    static void run(Class<?> type) {
        Check check = new Check();
        Document document = new Document();
        for (Method test : testsOf(type)) {
            Says says = test.getAnnotation(Says.class);
            check.about("promise " + says.promise() + ", \"" + says.sentence() + "\": ");
            check.yes("stands in the document", document.tells(says.promise(), says.sentence()));
            runOne(check, test);
        }
        check.end();
    }

    private static void runOne(Check check, Method test) {
        int before = check.looks();
        try {
            test.invoke(null, check);
        } catch (InvocationTargetException e) {
            check.sameText(test.getName(), "throws " + e.getCause(), "throws nothing");
        } catch (IllegalAccessException e) {
            throw new IllegalStateException(e);
        }
        check.yes(test.getName() + " looks at an answer", check.looks() > before);
    }
}
