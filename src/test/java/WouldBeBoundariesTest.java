/** Promises 51 to 55: what would be, where nothing is to be told, and one tick, place or slide more or less. */
public final class WouldBeBoundariesTest {

    /** Slide 1 is waited for behind slide 0, which is loaded in so many ticks; the ember of 1 glows for so many, if not 0. */
    private static SlideBonfire waitingBehind(int ticks, int glow) {
        SlideBonfire x = Shows.with(Shows.slide(10, ticks, 0), Shows.slide(10, 9, 0));
        x.changeAhead(0);
        if (glow > 0) {
            x.changeGlow(glow);
            Shows.load(x, 1);
            x.burn(1);
        }
        x.insert(0, 1);
        x.ask(0);
        x.goOn();
        return x;
    }

    @Says(promise = 51, sentence = "Throws IllegalStateException if none is waited for")
    static void noneIsWaitedForByTicks(Check check) {
        check.badState("of a new show", SlideBonfire::new, s -> s.ticksToShowByTicks());
        check.badState("being loaded, but not waited for", Shows::busy, s -> s.ticksToShowByTicks());
        check.badState("shown by now", Shows::ofFirstShown, s -> s.ticksToShowByTicks());
    }

    @Says(promise = 52, sentence = "Throws IllegalStateException if none is waited for")
    static void noneIsWaitedForBySums(Check check) {
        check.badState("of a new show", SlideBonfire::new, s -> s.ticksToShowBySums());
        check.badState("being loaded, but not waited for", Shows::busy, s -> s.ticksToShowBySums());
        check.badState("shown by now", Shows::ofFirstShown, s -> s.ticksToShowBySums());
    }

    @Says(promise = 51, sentence = "Tells in how many ticks the slide that is waited for is shown, if nothing else is done, by "
        + "letting ticks go by.")
    static void byTicks(Check check) {
        SlideBonfire x = Shows.ofFirstWaited();
        for (int left = 3; left > 0; left--) {
            check.same("of its own loading", x.ticksToShowByTicks(), left);
            check.same("shown with the last one", x.tick(1), left == 1 ? 1 : 0);
        }
        check.same("the most", longestWait().ticksToShowByTicks(), 40);
        check.same("the show does not go on by itself", waitingAtPace().ticksToShowByTicks(), 9);
    }

    /** A slide of 20 ticks is waited for, behind another one of as many. */
    private static SlideBonfire longestWait() {
        SlideBonfire x = Shows.ofAlike(2, 10, 20, 0);
        x.ask(0);
        x.insert(0, 1);
        x.goOn();
        return x;
    }

    private static SlideBonfire waitingAtPace() {
        SlideBonfire x = Shows.with(Shows.slide(10, 1, 0), Shows.slide(10, 9, 0));
        x.changeAhead(0);
        Shows.load(x, 0);
        Shows.programme(x, 0, 1);
        x.changePace(1);
        x.goOn();
        x.goOn();
        return x;
    }

    @Says(promise = 52, sentence = "what is left of the loading that goes on, and, if that is of another slide, the load of the one "
        + "that is waited for, as it is then: half of its ticks, rounded up, if its ember glows then")
    static void bySums(Check check) {
        SlideBonfire x = Shows.ofFirstWaited();
        for (int left = 3; left > 0; left--) {
            check.same("of its own loading", x.ticksToShowBySums(), left);
            x.tick(1);
        }
        check.same("the most", longestWait().ticksToShowBySums(), 40);
        check.same("without an ember", waitingBehind(4, 0).ticksToShowBySums(), 4 + 9);
        check.same("it glows for a tick more then", waitingBehind(4, 5).ticksToShowBySums(), 4 + 5);
        check.same("it glows as long as the loading", waitingBehind(5, 5).ticksToShowBySums(), 5 + 9);
        check.same("it glows for a tick less", waitingBehind(6, 5).ticksToShowBySums(), 6 + 9);
        check.same("to the last tick", waitingBehind(19, 20).ticksToShowBySums(), 19 + 5);
        check.same("a tick behind it", waitingBehind(20, 20).ticksToShowBySums(), 20 + 9);
    }

    @Says(promise = 52, sentence = "Returns the ticks, the same as by ticksToShowByTicks().")
    static void bothWays(Check check) {
        for (int ticks = 1; ticks <= 20; ticks++) {
            for (int glow : new int[] {0, 1, ticks - 1, ticks, Math.min(20, ticks + 1)}) {
                SlideBonfire x = waitingBehind(ticks, glow);
                int due = x.ticksToShowByTicks();
                check.same("ticks " + ticks + ", glow " + glow, x.ticksToShowBySums(), due);
                x.tick(ticks);
                check.same("ticks " + ticks + ", glow " + glow + ", behind the other one", x.ticksToShowBySums(), due - ticks);
                check.same("ticks " + ticks + ", glow " + glow + ", shown then", x.tick(due - ticks), 1);
                check.same("ticks " + ticks + ", glow " + glow + ", no tick later", x.shownFor(), 0);
            }
        }
    }

    @Says(promise = 53, sentence = "- slide: the number of the slide")
    static void burningsForFirstAndLast(Check check) {
        SlideBonfire x = Shows.ofAlike(16, 50, 1, 0);
        Shows.load(x, 1, 2, 3);
        check.same("the first slide", x.burningsFor(0), 1);
        check.same("the last slide", x.burningsFor(15), 1);
        check.same("a loaded one", x.burningsFor(3), 0);
    }

    @Says(promise = 53, sentence = "Throws IndexOutOfBoundsException if there is no such slide")
    static void burningsForNone(Check check) {
        check.noSuchSlide((s, slide) -> s.burningsFor(slide));
    }

    @Says(promise = 53, sentence = "Returns the slides, 0 if it is loaded or being loaded, or there is room for it; all that can be, if "
        + "there is not room enough even then.")
    static void burningsFor(Check check) {
        check.same("of a new slide", Shows.ofAlike(1, 50, 1, 0).burningsFor(0), 0);
        int[] costs = {1, 2, 11, 12, 31, 32, 50};
        int[] due = {0, 1, 1, 2, 2, 3, 3};
        for (int i = 0; i < costs.length; i++) {
            SlideBonfire x = Shows.with(Shows.slide(10, 1, 0), Shows.slide(20, 1, 0), Shows.slide(30, 1, 0),
                Shows.slide(40, 1, 0), Shows.slide(49, 1, 0), Shows.slide(costs[i], 1, 0));
            Shows.load(x, 0, 1, 2, 3, 4);
            check.same("cost " + costs[i] + ", 1 is free", x.burningsFor(5), due[i]);
            check.same("a loaded one", x.burningsFor(0), 0);
            x.ask(5);
            check.same("cost " + costs[i] + ", it is so", x.burnings(), due[i]);
            check.same("being loaded", x.burningsFor(5), 0);
        }
    }

    @Says(promise = 53, sentence = "all that can be, if there is not room enough even then")
    static void notRoomEnoughEvenThen(Check check) {
        SlideBonfire x = Shows.with(Shows.slide(50, 1, 9), Shows.slide(50, 1, 9), Shows.slide(48, 9, 0), Shows.slide(1, 1, 0),
            Shows.slide(1, 1, 0), Shows.slide(3, 1, 0), Shows.slide(2, 1, 0), Shows.slide(50, 1, 0));
        x.changeAhead(0);
        Shows.load(x, 0, 1, 3, 4);
        Shows.programme(x, 0, 1);
        x.goOn();
        x.goOn();
        x.ask(2);
        check.same("two on show, one is being loaded, two can be burnt", x.takenBySlides(), 150);
        check.same("just room enough then", x.burningsFor(6), 2);
        check.same("one too few", x.burningsFor(5), 2);
        check.same("far too few", x.burningsFor(7), 2);
        x.burn(3);
        x.burn(4);
        check.same("none can be burnt", x.burningsFor(5), 0);
        check.same("none, but there is room", x.burningsFor(6), 0);
    }

    @Says(promise = 54, sentence = "- order: 0 to 2")
    static void ordersOfMisses(Check check) {
        for (int order = 0; order <= 2; order++) {
            check.same("order " + order, Shows.ofPlaces(1).missesWith(order), 1);
        }
    }

    @Says(promise = 54, sentence = "Throws IllegalArgumentException if order is out of range")
    static void wrongOrdersOfMisses(Check check) {
        for (int order : new int[] {-1, 3, Integer.MIN_VALUE, Integer.MAX_VALUE}) {
            check.badArgument("missesWith(" + order + ")", Shows::busy, s -> s.missesWith(order));
        }
    }

    @Says(promise = 54, sentence = "Throws IllegalStateException if the programme is empty, or a slide is waited for")
    static void noMisses(Check check) {
        for (int i = 0; i <= 2; i++) {
            int order = i;
            check.badState("of a new show", SlideBonfire::new, s -> s.missesWith(order));
            check.badState("an empty programme", () -> Shows.ofPlaces(0), s -> s.missesWith(order));
            check.badState("waited for", Shows::waiting, s -> s.missesWith(order));
        }
        check.same("neither", Shows.busy().missesWith(0), 1);
    }

    @Says(promise = 54, sentence = "If several exceptions apply, the one that is named first in the throws clause is thrown.")
    static void noMissesOfNoOrder(Check check) {
        check.badArgument("an empty programme", SlideBonfire::new, s -> s.missesWith(3));
        check.badArgument("waited for", Shows::waiting, s -> s.missesWith(-1));
    }

    @Says(promise = 54, sentence = "a round through the programme would have from now on, place by place from the next one on")
    static void wholeRound(Check check) {
        SlideBonfire x = Shows.ofHeavySlides(4);
        check.same("each place is missed, and each once", x.missesWith(0), 4);
        x = Shows.ofPlaces(24);
        check.same("one slide at many places is missed once", x.missesWith(0), 1);
        x.goOn();
        x.tick(3);
        check.same("and not at all as it is loaded", x.missesWith(0), 0);
        x = Shows.ofHeavySlides(3);
        Shows.load(x, 0, 1, 2);
        x.addSlide(50, 1, 0);
        x.insert(3, 3);
        // From behind place 2 on: 3 burns 0, and 0 burns 1, and 1 burns 2, and 2 burns 3.
        x.goOn();
        x.goOn();
        x.goOn();
        check.same("from the last but one on", x.missesWith(0), 4);
        // From the first one on all but the last one are loaded.
        x.takeOut(0);
        x.takeOut(0);
        x.takeOut(0);
        x.insert(0, 0);
        check.same("without a place of the show from the first one on", x.missesWith(0), 1);
    }

    @Says(promise = 54, sentence = "on a copy each time the show goes on, and as many ticks go by as it takes to show the slide, and 10 "
        + "more, with the pace 0")
    static void tenMore(Check check) {
        for (int load = 9; load <= 12; load++) {
            SlideBonfire x = Shows.with(Shows.slide(10, 5, 0), Shows.slide(10, load, 0));
            Shows.programme(x, 0, 1);
            check.same("behind a miss, load " + load, x.missesWith(0), load <= 10 ? 1 : 2);
            x.tick(5);
            check.same("behind a hit, load " + load, x.missesWith(0), load <= 10 ? 0 : 1);
            x.changePace(1);
            check.same("whatever the pace, load " + load, x.missesWith(0), load <= 10 ? 0 : 1);
        }
    }

    @Says(promise = 55, sentence = "Returns the order, of several the lowest.")
    static void lowestOfSeveral(Check check) {
        check.same("all the same", Shows.ofPlaces(1).bestOrder(), 0);
        SlideBonfire x = Shows.ofHeavySlides(4);
        Shows.load(x, 0, 1, 2);
        for (SlideBonfire y : new SlideBonfire[] {x, Shows.busy(), dearOneNotInTheProgramme()}) {
            int best = y.bestOrder();
            for (int order = 0; order <= 2; order++) {
                boolean fewer = order < best ? y.missesWith(best) < y.missesWith(order)
                    : y.missesWith(best) <= y.missesWith(order);
                check.yes("order " + best + " against " + order, fewer);
            }
        }
        check.same("1 as good as 2, and better than 0", dearOneNotInTheProgramme().bestOrder(), 1);
    }

    /** Slide 3 is the dearest one, was used last, and is not in the programme. */
    private static SlideBonfire dearOneNotInTheProgramme() {
        SlideBonfire x = Shows.with(Shows.slide(49, 1, 0), Shows.slide(49, 1, 0), Shows.slide(49, 1, 0), Shows.slide(50, 1, 0));
        x.changeAhead(0);
        Shows.load(x, 0, 1, 3);
        Shows.programme(x, 2, 0, 1);
        return x;
    }

    @Says(promise = 55, sentence = "Throws IllegalStateException if the programme is empty, or a slide is waited for")
    static void noBestOrder(Check check) {
        check.badState("of a new show", SlideBonfire::new, s -> s.bestOrder());
        check.badState("an empty programme", () -> Shows.ofPlaces(0), s -> s.bestOrder());
        check.badState("waited for", Shows::waiting, s -> s.bestOrder());
        check.same("neither", Shows.busy().bestOrder(), 0);
    }

    public static void main(String[] args) {
        Boundaries.run(WouldBeBoundariesTest.class);
    }
}
