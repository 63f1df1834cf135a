/** Promises 18 to 21: keep, goBack, undo, savedStates. */
public final class SnapshotsTest {
    private static final Check check = new Check();

    private static void slots() {
        SlideBonfire x = Shows.ofHeavySlides(3);
        check.badArgument("18 slot -1", () -> x.keep(-1));
        check.badArgument("18 slot 2", () -> x.keep(2));
        check.badArgument("19 slot -1", () -> x.goBack(-1));
        check.badArgument("19 slot 2", () -> x.goBack(2));
        check.badState("19 empty slot", () -> x.goBack(1));
        int saved = x.savedStates();
        x.keep(0);
        check.same("18 saves no state", x.savedStates(), saved);
        check.badState("19 the other slot is empty yet", () -> x.goBack(1));
        x.goOn();
        x.tick(1);
        x.keep(1);
        x.goBack(0);
        check.same("19 time", x.time(), 0);
        check.badState("19 nothing was shown", x::shown);
        x.tick(7);
        x.goBack(0);
        check.same("19 the snapshot stays as it was", x.time(), 0);
        x.tick(7);
        x.goBack(1);
        check.same("19 the other one", x.shown(), 0);
        x.undo();
        check.same("19 undone", x.time(), 7);
        x.addSlide(3, 3, 3);
        x.keep(1);
        x.goBack(0);
        x.goBack(1);
        check.same("18 in place of the one in the slot", x.slides(), 4);
        x.tick(3);
        x.undo();
        x.undo();
        x.undo();
        x.goBack(1);
        check.same("18 undo leaves the slots", x.slides(), 4);
    }

    private static void whatStays() {
        SlideBonfire x = Shows.ofHeavySlides(2);
        x.keep(0);
        x.append('n');
        x.tick(1);
        int saved = x.savedStates();
        x.goBack(0);
        check.same("19 the buffer stays, a state is saved", x.savedStates(), Math.min(6, saved + 1));
        check.same("19 the buffer", x.clearBuffer(), 1);
        x.append('n');
        x.append('n');
        x.undo();
        check.same("20 the buffer stays", x.clearBuffer(), 2);
    }

    private static void undo() {
        SlideBonfire x = new SlideBonfire();
        check.badState("20 none", x::undo);
        long[] digests = new long[10];
        for (int i = 0; i < 4; i++) {
            digests[i] = x.digest();
            x.addSlide(10, 1 + i, 0);
            check.same("21 saved", x.savedStates(), i + 1);
        }
        for (int i = 3; i >= 0; i--) {
            x.undo();
            check.same("20 as it was", x.digest(), digests[i]);
        }
        check.badState("20 all are dropped", x::undo);
        for (int i = 0; i < 9; i++) {
            x.tick(1 + i);
        }
        check.same("21 at most six", x.savedStates(), 6);
        int time = 45;
        for (int i = 8; i >= 3; i--) {
            x.undo();
            time -= 1 + i;
            check.same("20 the oldest are dropped first", x.time(), time);
        }
        check.badState("20 six, no more", x::undo);
        x.changeOrder(0);
        check.same("21 also if it changes nothing", x.savedStates(), 1);
    }

    private static void undoRestoresAll() {
        SlideBonfire x = Shows.ofFour();
        x.goOn();
        x.tick(20);
        x.goOn();
        x.ask(3);
        long before = x.digest();
        Runnable[] calls = {() -> x.tick(30), () -> x.addSlide(1, 1, 1), () -> x.insert(0, 3), () -> x.takeOut(2),
            () -> x.changeMemory(333), () -> x.changeAhead(4), () -> x.changeOrder(2), () -> x.changeGlow(19),
            () -> x.changePace(9), () -> x.goOn()};
        for (int i = 0; i < calls.length; i++) {
            int saved = x.savedStates();
            calls[i].run();
            check.same("21 saved by call " + i, x.savedStates(), Math.min(6, saved + 1));
            check.yes("20 changed by call " + i, x.digest() != before);
            x.undo();
            if (saved < 6) {
                check.same("20 restored behind call " + i, x.digest(), before);
            } else {
                before = x.digest();
            }
        }
    }

    /** A show in which all that a state holds is other than at first; one state is saved. */
    private static SlideBonfire ofManyThings() {
        SlideBonfire x = Shows.with(Shows.slide(50, 2, 9), Shows.slide(49, 3, 8), Shows.slide(48, 4, 7), Shows.slide(47, 5, 6),
            Shows.slide(46, 6, 5), Shows.slide(45, 7, 4));
        x.changeMemory(200);
        x.changeAhead(0);
        x.changeOrder(1);
        x.changeGlow(12);
        x.changePace(40);
        Shows.programme(x, 0, 1, 2, 3);
        Shows.load(x, 1, 2, 3);
        x.burn(3);
        x.goOn();
        x.tick(2);
        x.goOn();
        x.goOn();
        x.tick(1);
        x.goOn();
        x.ask(4);
        x.ask(5);
        x.tick(1);
        x.keep(0);
        for (int i = 0; i < 6; i++) {
            x.undo();
        }
        x.goBack(0);
        return x;
    }

    private static void undoRestoresMany() {
        SlideBonfire x = ofManyThings();
        String before = Answers.of(x);
        long digest = x.digest();
        Shows.write(x, "t100;p5;p5;t100");
        x.follow();
        check.yes("20 all is other", x.digest() != digest);
        x.undo();
        check.sameText("20 all is as it was", Answers.of(x), before);
        Runnable[] calls = {() -> x.tick(1), () -> x.addSlide(1, 1, 1), () -> x.insert(0, 3), () -> x.takeOut(2),
            () -> x.changeMemory(150), () -> x.changeAhead(4), () -> x.changeOrder(2), () -> x.changeGlow(19),
            () -> x.changePace(9), () -> x.tick(5)};
        for (int i = 0; i < calls.length; i++) {
            calls[i].run();
            check.yes("20 other behind call " + i, x.digest() != digest);
            x.undo();
            check.same("20 digest behind call " + i, x.digest(), digest);
            check.sameText("20 as it was behind call " + i, Answers.of(x), before);
        }
        x.keep(1);
        x.tick(100);
        x.changeOrder(0);
        x.goBack(1);
        x.undo();
        x.undo();
        x.undo();
        check.sameText("20 three calls back", Answers.of(x), before);
    }

    public static void main(String[] args) {
        slots();
        whatStays();
        undo();
        undoRestoresAll();
        undoRestoresMany();
        check.end();
    }
}
