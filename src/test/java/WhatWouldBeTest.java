/** Promises 51 to 55: what would be. */
public final class WhatWouldBeTest {
    private static final Check check = new Check();

    private static void bothWays(String what, SlideBonfire x, int due) {
        long before = x.digest();
        check.same("51 " + what, x.ticksToShowByTicks(), due);
        check.same("52 " + what, x.ticksToShowBySums(), due);
        check.same("51, 52 nothing is changed", x.digest(), before);
        x.keep(1);
        for (int i = 1; i < due; i++) {
            check.same("51 not shown yet, " + what, x.tick(1), 0);
        }
        check.yes("51 shown then, " + what, x.tick(1) > 0);
        x.goBack(1);
    }

    private static SlideBonfire ofTwo() {
        SlideBonfire x = Shows.with(Shows.slide(10, 9, 0), Shows.slide(10, 7, 0));
        x.changeAhead(0);
        Shows.programme(x, 1, 0);
        return x;
    }

    private static void ticksToShow() {
        SlideBonfire x = ofTwo();
        check.badState("51 none is waited for", x::ticksToShowByTicks);
        check.badState("52 none is waited for", x::ticksToShowBySums);
        x.goOn();
        bothWays("its own loading", x, 7);
        x.tick(3);
        bothWays("what is left of it", x, 4);
        x = ofTwo();
        x.ask(0);
        x.tick(2);
        x.goOn();
        bothWays("behind another loading", x, 7 + 7);
    }

    /** Slide 1 was burnt, and slide 0, of so many ticks, is loaded ahead of it. */
    private static SlideBonfire withEmber(int load, int glow) {
        SlideBonfire x = Shows.with(Shows.slide(10, load, 0), Shows.slide(10, 7, 0));
        x.changeAhead(0);
        x.changeGlow(glow);
        Shows.load(x, 1);
        x.burn(1);
        x.ask(0);
        Shows.programme(x, 1);
        x.goOn();
        return x;
    }

    private static void ticksToShowWithEmbers() {
        bothWays("its ember glows then", withEmber(4, 5), 4 + 4);
        bothWays("its ember is just gone then", withEmber(5, 5), 5 + 7);
        bothWays("its ember is long gone", withEmber(9, 5), 9 + 7);
        SlideBonfire x = withEmber(4, 5);
        x.changePace(1);
        bothWays("with a pace", x, 8);
        x.tick(2);
        bothWays("two ticks later", x, 6);
    }

    private static void burningsFor() {
        SlideBonfire x = Shows.with(Shows.slide(50, 1, 0), Shows.slide(20, 1, 0), Shows.slide(30, 1, 0), Shows.slide(50, 1, 0),
            Shows.slide(50, 1, 0), Shows.slide(1, 1, 0));
        x.changeAhead(0);
        check.same("53 room", x.burningsFor(0), 0);
        Shows.load(x, 1, 2, 0);
        check.same("53 loaded", x.burningsFor(0), 0);
        check.same("53 just room enough", x.burningsFor(3), 0);
        x.ask(3);
        check.same("53 being loaded", x.burningsFor(3), 0);
        check.same("53 the cheap ones first", x.burningsFor(4), 2);
        check.same("53 a cheap one", x.burningsFor(5), 1);
        x.changeOrder(1);
        check.same("53 the dear one first", x.burningsFor(4), 1);
        long before = x.digest();
        x.burningsFor(4);
        check.same("53 nothing is changed", x.digest(), before);
    }

    private static void burningsThatAreNotEnough() {
        SlideBonfire x = Shows.with(Shows.slide(50, 1, 9), Shows.slide(40, 1, 9), Shows.slide(50, 5, 9), Shows.slide(50, 1, 9),
            Shows.slide(10, 1, 9));
        x.changeAhead(0);
        Shows.load(x, 0, 1, 4);
        Shows.programme(x, 0, 1);
        x.goOn();
        x.goOn();
        x.ask(2);
        check.same("53 all that can be, though not enough", x.burningsFor(3), 1);
    }

    private static void missesWith() {
        SlideBonfire x = Shows.ofHeavySlides(4);
        check.badArgument("54 order -1", () -> x.missesWith(-1));
        check.badArgument("54 order 3", () -> x.missesWith(3));
        SlideBonfire empty = new SlideBonfire();
        check.badState("54 empty", () -> empty.missesWith(0));
        check.badArgument("54 a wrong order comes first", () -> empty.missesWith(3));
        check.badState("55 empty", empty::bestOrder);
        check.same("54 all are missed at first", x.missesWith(0), 4);
        x.goOn();
        check.badState("54 one is waited for", () -> x.missesWith(0));
        check.badState("55 one is waited for", x::bestOrder);
        check.badArgument("54 a wrong order comes first, too", () -> x.missesWith(3));
        x.tick(1);
        x.goOn();
        x.tick(1);
        x.goOn();
        x.tick(1);
        // The slides 0, 1 and 2 are loaded, 2 is shown; a round is 3, 0, 1, 2.
        // Order 0 burns 0 for 3, 1 for 0, 2 for 1, 3 for 2.
        check.same("54 the longest ago", x.missesWith(0), 4);
        // Order 1, as all cost the same, burns the lowest one that is not shown: 0 for 3, 1 for 0, 2 for 1, 0 for 2.
        check.same("54 the greatest cost", x.missesWith(1), 4);
        // Order 2 burns, for 3, the one of 0 and 1 that is used later: 1; then 0 is hit; for 1 it burns 3; 2 is hit.
        check.same("54 used next the latest", x.missesWith(2), 2);
        check.same("55 the fewest", x.bestOrder(), 2);
        long before = x.digest();
        x.missesWith(2);
        x.bestOrder();
        check.same("54, 55 nothing is changed", x.digest(), before);
        check.same("48 the order stays", x.order(), 0);
    }

    /** Slide 3 is not in the programme, but was used last; it is the dearest one. */
    private static void missesWithOneThatIsNotUsed() {
        SlideBonfire x = Shows.with(Shows.slide(49, 1, 0), Shows.slide(49, 1, 0), Shows.slide(49, 1, 0), Shows.slide(50, 1, 0));
        x.changeAhead(0);
        Shows.load(x, 0, 1, 3);
        Shows.programme(x, 2, 0, 1);
        check.same("54 burns 0 for 2, 1 for 0, 3 for 1", x.missesWith(0), 3);
        check.same("54 burns 3 for 2", x.missesWith(1), 1);
        check.same("54 burns 3 for 2, too", x.missesWith(2), 1);
        check.same("55 of several the lowest", x.bestOrder(), 1);
    }

    /** The last tick of a loading that goes on in good time is the tenth one more, or one behind it. */
    private static void tenTicksMore(int load, int due) {
        SlideBonfire x = Shows.with(Shows.slide(10, 3, 0), Shows.slide(10, load, 0));
        Shows.programme(x, 0, 1);
        check.same("54 load " + load, x.missesWith(0), due);
    }

    /** As the show goes on to slide 0, the loading of slide 1 begins at once, so that ten ticks are just enough for it. */
    private static void loadingBeginsBehindGoingOn() {
        SlideBonfire x = Shows.with(Shows.slide(10, 1, 0), Shows.slide(10, 10, 0));
        Shows.load(x, 0);
        Shows.programme(x, 0, 1);
        check.same("54 none is missed", x.missesWith(0), 0);
    }

    private static void missesInGoodTime() {
        SlideBonfire x = Shows.with(Shows.slide(10, 12, 0), Shows.slide(10, 9, 0), Shows.slide(10, 11, 0));
        Shows.programme(x, 0, 1, 2);
        // 0 is being loaded: a miss. While it is shown, 10 ticks go by: enough for 1, but 2 takes a tick more than that.
        check.same("54 ten ticks more", x.missesWith(0), 2);
        x.changePace(1);
        check.same("54 the pace is 0", x.missesWith(0), 2);
        check.same("50 the pace stays", x.pace(), 1);
        check.same("55 of several the lowest", x.bestOrder(), 0);
        x.tick(12);
        check.same("54 the first one is loaded", x.missesWith(2), 1);
    }

    public static void main(String[] args) {
        ticksToShow();
        ticksToShowWithEmbers();
        burningsFor();
        burningsThatAreNotEnough();
        missesWith();
        missesWithOneThatIsNotUsed();
        tenTicksMore(10, 1);
        tenTicksMore(11, 2);
        loadingBeginsBehindGoingOn();
        missesInGoodTime();
        check.end();
    }
}
