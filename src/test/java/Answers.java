import java.lang.reflect.InvocationTargetException;
import java.lang.reflect.Method;
import java.lang.reflect.Modifier;
import java.util.ArrayList;
import java.util.Arrays;
import java.util.Comparator;
import java.util.List;

/** Calls by name, and all that a show tells. */
final class Answers {
    static final List<String> ACTIONS = List.of("addSlide", "insert", "takeOut", "goOn", "ask", "burn", "tick",
        "changeMemory", "changeAhead", "changeOrder", "changeGlow", "changePace", "append", "clearBuffer", "follow",
        "keep", "goBack", "undo");

    /** The public methods of the class that change nothing. */
    static final List<Method> QUERIES = Arrays.stream(SlideBonfire.class.getDeclaredMethods())
        .filter(m -> Modifier.isPublic(m.getModifiers()) && !ACTIONS.contains(m.getName()))
        .sorted(Comparator.comparing(Method::getName)).toList();

    private Answers() {
    }

    /** What the call answers, as a text: "throws." and the exception's name if it throws. */
    static String answer(Object target, Method method, Object... args) {
        try {
            return String.valueOf(method.invoke(target, args));
        } catch (InvocationTargetException e) {
            return "throws." + e.getCause().getClass().getSimpleName();
        } catch (IllegalAccessException e) {
            throw new IllegalStateException(e);
        }
    }

    /** All that the show tells, but the saved states and the digest, which counts them. */
    static String of(SlideBonfire x) {
        StringBuilder all = new StringBuilder();
        for (Method query : QUERIES) {
            String name = query.getName();
            if (name.equals("savedStates") || name.equals("digest")) {
                continue;
            }
            int last = query.getParameterCount() == 0 ? 0 : 24;
            for (int i = 0; i <= last; i++) {
                Object[] args = query.getParameterCount() == 0 ? new Object[0] : new Object[] {i};
                all.append(name).append(' ').append(i).append(' ').append(answer(x, query, args)).append('\n');
            }
        }
        return all.toString();
    }

    /** What undo() and goBack() bring up, one after the other, until nothing is left; the show is changed by it. */
    static String ofWhatIsKept(SlideBonfire x) {
        StringBuilder all = new StringBuilder();
        while (x.savedStates() > 0) {
            x.undo();
            all.append(x.digest()).append('\n');
        }
        for (int slot = 0; slot < 2; slot++) {
            try {
                x.goBack(slot);
            } catch (IllegalStateException e) {
                all.append("empty ");
            }
            all.append(x.digest()).append('\n');
        }
        return all.toString();
    }

    private interface Answer {
        long get();
    }

    private static long orZero(Answer answer, int more) {
        try {
            return answer.get() + more;
        } catch (IllegalStateException e) {
            return 0;
        }
    }

    /** The digest of a show with this text and these slots, by its other answers. */
    static long digest(SlideBonfire x, String text, boolean first, boolean second) {
        List<Long> values = new ArrayList<>();
        addSlides(values, x);
        addShow(values, x);
        long[] accounts = {x.time(), x.hits(), x.misses(), x.loads(), x.warmLoads(), x.burnings(), x.waited(), x.savedStates(),
            Double.doubleToLongBits(x.hitShare()), first ? 1 : 0, second ? 1 : 0, text.length()};
        add(values, accounts);
        for (char c : text.toCharArray()) {
            add(values, c);
        }
        return hash(values.stream().mapToLong(Long::longValue).toArray());
    }

    /** The hash of the digest, over these values. */
    static long hash(long... values) {
        long hash = 4447;
        for (long value : values) {
            hash = 31 * hash + value;
        }
        return hash;
    }

    private static void add(List<Long> values, long... more) {
        for (long value : more) {
            values.add(value);
        }
    }

    private static void addSlides(List<Long> values, SlideBonfire x) {
        add(values, x.slides());
        for (int i = 0; i < x.slides(); i++) {
            int s = i;
            add(values, x.costOf(s), x.loadOf(s), x.fadeOf(s), x.isLoaded(s) ? 1 : 0, x.isOnShow(s) ? 1 : 0, x.glowOf(s),
                x.burntTimes(s), orZero(() -> x.nextUse(s), 0), orZero(() -> x.burnPlace(s), 1), x.burningsFor(s));
        }
        add(values, x.places());
        for (int place = 0; place < x.places(); place++) {
            add(values, x.slideAt(place));
        }
    }

    private static void addShow(List<Long> values, SlideBonfire x) {
        add(values, orZero(x::showPlace, 1), orZero(x::shown, 1), orZero(x::fading, 1), x.fadeLeft(), orZero(x::awaited, 1),
            orZero(x::shownFor, 0), orZero(x::loading, 1), x.loadLeft(), x.asked());
        for (int place = 0; place < x.asked(); place++) {
            add(values, x.askedAt(place));
        }
        add(values, x.takenBySlides(), x.takenByAccount(), x.memory(), x.ahead(), x.order(), x.glow(), x.pace(),
            orZero(x::ticksToShowByTicks, 0), orZero(x::ticksToShowBySums, 0));
    }
}
