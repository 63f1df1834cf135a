import java.lang.reflect.InvocationTargetException;
import java.lang.reflect.Method;
import java.lang.reflect.Modifier;
import java.util.Arrays;
import java.util.Comparator;
import java.util.List;

/** Calls by name, and all that a show tells. */
final class Answers {
    static final List<String> ACTIONS = List.of("addSlide", "insert", "takeOut", "goOn", "ask", "burn", "tick",
        "changeMemory", "changeAhead", "changeOrder", "changeGlow", "changePace", "append", "clearBuffer", "follow",
        "keep", "goBack", "undo");

    /** The public methods of the class that change nothing. */
    static final List<Method> QUERIES = Arrays.stream(SlideBonfire.class.getDeclaredMethods())
        .filter(m -> Modifier.isPublic(m.getModifiers()) && !ACTIONS.contains(m.getName()))
        .sorted(Comparator.comparing(Method::getName)).toList();

    private Answers() {
    }

    /** What the call answers, as a text: "throws." and the exception's name if it throws. */
    static String answer(Object target, Method method, Object... args) {
        try {
            return String.valueOf(method.invoke(target, args));
        } catch (InvocationTargetException e) {
            return "throws." + e.getCause().getClass().getSimpleName();
        } catch (IllegalAccessException e) {
            throw new IllegalStateException(e);
        }
    }

    /** All that the show tells, but the saved states and the digest, which counts them. */
    static String of(SlideBonfire x) {
        StringBuilder all = new StringBuilder();
        for (Method query : QUERIES) {
            String name = query.getName();
            if (name.equals("savedStates") || name.equals("digest")) {
                continue;
            }
            int last = query.getParameterCount() == 0 ? 0 : 24;
            for (int i = 0; i <= last; i++) {
                Object[] args = query.getParameterCount() == 0 ? new Object[0] : new Object[] {i};
                all.append(name).append(' ').append(i).append(' ').append(answer(x, query, args)).append('\n');
            }
        }
        return all.toString();
    }

    /** What undo() and goBack() bring up, one after the other, until nothing is left; the show is changed by it. */
    static String ofWhatIsKept(SlideBonfire x) {
        StringBuilder all = new StringBuilder();
        while (x.savedStates() > 0) {
            x.undo();
            all.append(x.digest()).append('\n');
        }
        for (int slot = 0; slot < 2; slot++) {
            try {
                x.goBack(slot);
            } catch (IllegalStateException e) {
                all.append("empty ");
            }
            all.append(x.digest()).append('\n');
        }
        return all.toString();
    }
}
