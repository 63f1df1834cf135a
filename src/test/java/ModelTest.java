import java.lang.reflect.Method;
import java.util.Arrays;

/** Runs the same calls on a SlideBonfire and on the model, and looks at all that both tell behind each of them. */
public final class ModelTest {
    private static final int RUNS = 240;
    private static final int CALLS = 500;
    private static long seed = 1;

    private static int dice(int sides) {
        seed = seed * 6364136223846793005L + 1442695040888963407L;
        return (int) ((seed >>> 33) % sides);
    }

    private static Method of(Class<?> type, String name) {
        for (Method method : type.getDeclaredMethods()) {
            if (method.getName().equals(name)) {
                return method;
            }
        }
        throw new IllegalStateException("no method " + name);
    }

    private static Object[] arguments(String name, int run, SlideBonfire bonfire) {
        boolean wrong = dice(25) == 0;
        int slide = wrong ? dice(20) - 2 : dice(Math.max(1, bonfire.slides()));
        switch (name) {
            case "addSlide":
                return wrong ? new Object[] {dice(54) - 1, dice(24) - 1, dice(14) - 1}
                    : new Object[] {run % 2 == 0 ? 50 - dice(15) : 1 + dice(50), 1 + dice(run % 3 == 0 ? 20 : 6), dice(11)};
            case "insert":
                return new Object[] {wrong ? dice(28) - 2 : dice(bonfire.places() + 1), slide};
            case "takeOut":
                return new Object[] {wrong ? dice(28) - 2 : dice(Math.max(1, bonfire.places()))};
            case "ask":
            case "burn":
                return new Object[] {slide};
            case "tick":
                return new Object[] {wrong ? dice(104) - 1 : 1 + dice(dice(4) == 0 ? 30 : 6)};
            case "changeMemory":
                return new Object[] {wrong ? 140 + dice(270) : 150 + dice(4) * dice(30)};
            case "changeAhead":
                return new Object[] {wrong ? dice(8) - 2 : dice(5)};
            case "changeOrder":
                return new Object[] {wrong ? dice(6) - 2 : dice(3)};
            case "changeGlow":
                return new Object[] {wrong ? dice(26) - 2 : dice(21)};
            case "changePace":
                return new Object[] {wrong ? dice(56) - 2 : dice(3) == 0 ? 0 : dice(9)};
            case "append":
                return new Object[] {wrong ? dice(140) : (int) "nabpt;0123456789".charAt(dice(16))};
            case "keep":
            case "goBack":
                return new Object[] {wrong ? dice(5) - 2 : dice(2)};
            default:
                return new Object[0];
        }
    }

    private static String nextAction(SlideBonfire bonfire) {
        if (bonfire.slides() < 5 && dice(2) == 0) {
            return "addSlide";
        }
        if (bonfire.places() < 4 && bonfire.slides() > 2 && dice(2) == 0) {
            return "insert";
        }
        int choice = dice(10);
        if (choice < 2) {
            return "goOn";
        }
        if (choice < 4) {
            return "tick";
        }
        return Answers.ACTIONS.get(dice(Answers.ACTIONS.size()));
    }

    /** A whole text of orders, so that follow() is not always sent off. */
    private static String orders(SlideBonfire bonfire) {
        StringBuilder text = new StringBuilder();
        int parts = 1 + dice(4);
        for (int i = 0; i < parts; i++) {
            char letter = "nnabptt".charAt(dice(7));
            int number = letter == 't' ? 1 + dice(12) : dice(Math.max(1, Math.min(16, bonfire.slides())));
            text.append(i == 0 ? "" : ";").append(letter);
            if (letter != 'n') {
                text.append(number);
            }
        }
        return text.toString();
    }

    private static void compareAll(Check check, String where, SlideBonfire bonfire, Model model) {
        for (Method query : Answers.QUERIES) {
            Method same = of(Model.class, query.getName());
            if (query.getParameterCount() == 0) {
                check.sameText(where + query.getName(), Answers.answer(bonfire, query), Answers.answer(model, same));
                continue;
            }
            for (int i = -1; i <= 24; i++) {
                String name = where + query.getName() + "(" + i + ")";
                check.sameText(name, Answers.answer(bonfire, query, i), Answers.answer(model, same, i));
            }
        }
    }

    public static void main(String[] args) {
        Check check = new Check();
        for (int run = 0; run < RUNS; run++) {
            seed = run + 1;
            SlideBonfire bonfire = new SlideBonfire();
            Model model = new Model();
            for (int i = 0; i < CALLS; i++) {
                String name = nextAction(bonfire);
                if (name.equals("follow") && dice(4) > 0) {
                    bonfire.clearBuffer();
                    model.clearBuffer();
                    for (char c : orders(bonfire).toCharArray()) {
                        bonfire.append(c);
                        model.append(c);
                    }
                }
                Object[] arguments = arguments(name, run, bonfire);
                String where = "run " + run + " call " + i + " " + name + Arrays.toString(arguments) + " ";
                check.sameText(where, Answers.answer(bonfire, of(SlideBonfire.class, name), arguments),
                    Answers.answer(model, of(Model.class, name), arguments));
                check.same(where + "digest", bonfire.digest(), model.digest());
                if (i % 25 == 0) {
                    compareAll(check, where, bonfire, model);
                }
            }
        }
        check.end();
    }
}
