import java.util.function.BiConsumer;
import java.util.function.Consumer;
import java.util.function.Supplier;

/** Counts what a test finds, and prints each answer that is not the one that is due. */
final class Check {
    private int right = 0;
    private int wrong = 0;
    private String about = "";

    /** A call that is looked at for what it throws. */
    interface Call {
        void run();
    }

    /** What is printed ahead of each wrong answer from now on. */
    void about(String text) {
        about = text;
    }

    /** How many answers were looked at. */
    int looks() {
        return right + wrong;
    }

    void same(String what, long got, long due) {
        count(got == due, what + " answered " + got + ", due is " + due);
    }

    void sameShare(String what, double got, double due) {
        count(Double.doubleToLongBits(got) == Double.doubleToLongBits(due),
            what + " answered " + got + ", due is " + due);
    }

    /** Of two long texts only the first lines that differ are printed. */
    void sameText(String what, String got, String due) {
        String[] gotLines = got.split("\n", -1);
        String[] dueLines = due.split("\n", -1);
        int i = 0;
        while (i < Math.min(gotLines.length, dueLines.length) && gotLines[i].equals(dueLines[i])) {
            i++;
        }
        count(got.equals(due), what + " answered " + lineAt(gotLines, i) + ", due is " + lineAt(dueLines, i));
    }

    private static String lineAt(String[] lines, int place) {
        return place < lines.length ? lines[place] : "no more lines";
    }

    void yes(String what, boolean got) {
        count(got, what + " answered false, due is true");
    }

    void no(String what, boolean got) {
        count(!got, what + " answered true, due is false");
    }

    void badArgument(String what, Call call) {
        throwsExactly(what, IllegalArgumentException.class, call);
    }

    void badIndex(String what, Call call) {
        throwsExactly(what, IndexOutOfBoundsException.class, call);
    }

    void badState(String what, Call call) {
        throwsExactly(what, IllegalStateException.class, call);
    }

    /** The exception must be of that very class: one of a class below it would be the machine's own. */
    private void throwsExactly(String what, Class<? extends RuntimeException> due, Call call) {
        try {
            call.run();
            count(false, what + " throws nothing, due is " + due.getSimpleName());
        } catch (RuntimeException e) {
            count(e.getClass() == due, what + " throws " + e + ", due is " + due.getSimpleName());
        }
    }

    void badArgument(String what, Supplier<SlideBonfire> make, Consumer<SlideBonfire> call) {
        refused(what, IllegalArgumentException.class, make, call);
    }

    void badIndex(String what, Supplier<SlideBonfire> make, Consumer<SlideBonfire> call) {
        refused(what, IndexOutOfBoundsException.class, make, call);
    }

    void badState(String what, Supplier<SlideBonfire> make, Consumer<SlideBonfire> call) {
        refused(what, IllegalStateException.class, make, call);
    }

    /** The call is refused for each number that is no slide's, whether there are none, some, or as many as may be. */
    void noSuchSlide(BiConsumer<SlideBonfire, Integer> call) {
        badIndex("slide 0 of none", SlideBonfire::new, s -> call.accept(s, 0));
        badIndex("slide -1 of none", SlideBonfire::new, s -> call.accept(s, -1));
        badIndex("slide 16 of 16", () -> Shows.ofAlike(16, 1, 1, 0), s -> call.accept(s, 16));
        for (int slide : new int[] {-1, 6, Integer.MIN_VALUE, Integer.MAX_VALUE}) {
            badIndex("slide " + slide + " of 6", Shows::busy, s -> call.accept(s, slide));
        }
    }

    /** The call throws that exception, and changes nothing: a second show, without the call, goes on in the same way. */
    private void refused(String what, Class<? extends RuntimeException> due, Supplier<SlideBonfire> make,
            Consumer<SlideBonfire> call) {
        SlideBonfire show = make.get();
        SlideBonfire twin = make.get();
        throwsExactly(what, due, () -> call.accept(show));
        same(what + ", then digest()", show.digest(), twin.digest());
        sameText(what + ", then all", Answers.of(show), Answers.of(twin));
        sameText(what + ", then the saved states and the slots", Answers.ofWhatIsKept(show), Answers.ofWhatIsKept(twin));
    }

    private void count(boolean isRight, String message) {
        if (isRight) {
            right++;
        } else {
            wrong++;
            System.out.println("wrong: " + about + message);
        }
    }

    /** Ends the test: exit code 1 if an answer was wrong, or if none was looked at. */
    void end() {
        System.out.println(right + " answers are as due, " + wrong + " are not");
        if (wrong > 0 || right == 0) {
            System.exit(1);
        }
    }
}
