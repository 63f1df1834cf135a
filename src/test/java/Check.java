/** Counts what a test finds, and prints each answer that is not the one that is due. */
final class Check {
    private int right = 0;
    private int wrong = 0;

    /** A call that is looked at for what it throws. */
    interface Call {
        void run();
    }

    void same(String what, long got, long due) {
        count(got == due, what + " answered " + got + ", due is " + due);
    }

    void sameShare(String what, double got, double due) {
        count(Double.doubleToLongBits(got) == Double.doubleToLongBits(due),
            what + " answered " + got + ", due is " + due);
    }

    void sameText(String what, String got, String due) {
        count(got.equals(due), what + " answered " + got + ", due is " + due);
    }

    void yes(String what, boolean got) {
        count(got, what + " answered false, due is true");
    }

    void no(String what, boolean got) {
        count(!got, what + " answered true, due is false");
    }

    void badArgument(String what, Call call) {
        throwsExactly(what, IllegalArgumentException.class, call);
    }

    void badIndex(String what, Call call) {
        throwsExactly(what, IndexOutOfBoundsException.class, call);
    }

    void badState(String what, Call call) {
        throwsExactly(what, IllegalStateException.class, call);
    }

    /** The exception must be of that very class: one of a class below it would be the machine's own. */
    private void throwsExactly(String what, Class<? extends RuntimeException> due, Call call) {
        try {
            call.run();
            count(false, what + " throws nothing, due is " + due.getSimpleName());
        } catch (RuntimeException e) {
            count(e.getClass() == due, what + " throws " + e + ", due is " + due.getSimpleName());
        }
    }

    private void count(boolean isRight, String message) {
        if (isRight) {
            right++;
        } else {
            wrong++;
            System.out.println("wrong: " + message);
        }
    }

    /** Ends the test: exit code 1 if an answer was wrong, or if none was looked at. */
    void end() {
        System.out.println(right + " answers are as due, " + wrong + " are not");
        if (wrong > 0 || right == 0) {
            System.exit(1);
        }
    }
}
