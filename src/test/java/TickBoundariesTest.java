/** Promises 8, 13, 56 and 62: what a tick does, one thing behind the other, and the pace. */
public final class TickBoundariesTest {

    /** Two slides, loaded, in the programme in turn; the first one is shown, and the show goes on at that pace. */
    private static SlideBonfire atPace(int pace) {
        SlideBonfire x = Shows.ofAlike(2, 10, 1, 0);
        Shows.load(x, 0, 1);
        Shows.programme(x, 0, 1);
        x.changePace(pace);
        x.goOn();
        return x;
    }

    @Says(promise = 8, sentence = "- ticks: 1 to 100")
    static void fewAndManyTicks(Check check) {
        SlideBonfire x = new SlideBonfire();
        x.tick(1);
        check.same("one", x.time(), 1);
        x.tick(100);
        check.same("a hundred more", x.time(), 101);
    }

    @Says(promise = 8, sentence = "Throws IllegalArgumentException if ticks is out of range")
    static void tooFewAndTooManyTicks(Check check) {
        for (int ticks : new int[] {0, -1, 101, Integer.MIN_VALUE, Integer.MAX_VALUE}) {
            check.badArgument("tick(" + ticks + ")", Shows::busy, s -> s.tick(ticks));
        }
    }

    @Says(promise = 8, sentence = "Returns how many slides are shown in them.")
    static void shownInThem(Check check) {
        check.same("none", new SlideBonfire().tick(100), 0);
        SlideBonfire x = Shows.ofFirstWaited();
        check.same("a tick ahead of that", x.tick(2), 0);
        check.same("as its loading ends", x.tick(1), 1);
        check.same("behind that", x.tick(100), 0);
        check.same("by the pace, one a tick", atPace(1).tick(100), 100);
        check.same("at the slowest pace", atPace(50).tick(100), 2);
        x = Shows.ofHeavySlides(2);
        x.changePace(1);
        x.goOn();
        check.same("by loading and by the pace", x.tick(4), 3);
        x = Shows.ofFirstShown();
        x.changePace(3);
        check.same("the same one again", x.tick(7), 2);
    }

    @Says(promise = 56, sentence = "With each tick, in this order: the time becomes 1 more")
    static void time(Check check) {
        SlideBonfire x = new SlideBonfire();
        check.same("at first", x.time(), 0);
        for (int i = 1; i <= 3; i++) {
            x.tick(1);
            check.same("ticks", x.time(), i);
        }
        x.addSlide(1, 1, 0);
        x.insert(0, 0);
        x.goOn();
        check.same("no other call", x.time(), 3);
    }

    @Says(promise = 62, sentence = "if a slide is waited for, that counts as a tick of waiting")
    static void waiting(Check check) {
        SlideBonfire x = Shows.ofHeavySlides(2);
        x.tick(2);
        check.same("none is waited for", x.waited(), 0);
        x.goOn();
        check.same("it is, but no tick has gone by", x.waited(), 0);
        x.tick(1);
        check.same("the tick in which it is shown", x.waited(), 1);
        x.tick(1);
        check.same("none is waited for any more", x.waited(), 1);
        x.changePace(2);
        x.tick(1);
        check.same("not the tick in which the pace brings on the waiting", x.awaited() * 10 + x.waited(), 11);
        x.tick(1);
        check.same("but the next one", x.waited(), 2);
    }

    @Says(promise = 28, sentence = "embers glow a tick less")
    static void embersGlowLess(Check check) {
        SlideBonfire x = Shows.ofAlike(2, 10, 5, 0);
        Shows.load(x, 0);
        x.burn(0);
        for (int left = 5; left > 0; left--) {
            check.same("left", x.glowOf(0), left);
            x.tick(1);
        }
        check.same("none is left", x.glowOf(0), 0);
        x.tick(1);
        check.same("never below 0", x.glowOf(0), 0);
    }

    /** Slide 1 is waited for behind the loading of slide 0, which goes on for so many ticks; the ember of 1 glows for five. */
    private static SlideBonfire emberAgainstLoading(int ticks) {
        SlideBonfire x = Shows.with(Shows.slide(10, ticks, 0), Shows.slide(10, 8, 0));
        x.changeAhead(0);
        Shows.load(x, 1);
        x.insert(0, 1);
        x.burn(1);
        x.ask(0);
        x.goOn();
        return x;
    }

    @Says(promise = 60, sentence = "embers glow a tick less; fading goes on a tick less, and with none left nothing fades out; loading "
        + "goes on a tick less")
    static void embersAheadOfLoading(Check check) {
        SlideBonfire x = emberAgainstLoading(4);
        x.tick(4);
        check.same("a tick of the ember was left", x.warmLoads(), 1);
        check.same("half of the ticks", x.loadLeft(), 4);
        x = emberAgainstLoading(5);
        x.tick(5);
        check.same("none was left in the tick in which the loading begins", x.warmLoads(), 0);
        check.same("all of the ticks", x.loadLeft(), 8);
    }

    @Says(promise = 12, sentence = "embers glow a tick less; fading goes on a tick less, and with none left nothing fades out; loading "
        + "goes on a tick less")
    static void embersOfThatTick(Check check) {
        SlideBonfire x = Shows.ofAlike(4, 50, 1, 0);
        Shows.load(x, 0, 1);
        x.ask(2);
        x.ask(3);
        x.tick(1);
        check.same("burnt at the end of the tick: it glows for all of its ticks", x.glowOf(0), 5);
    }

    @Says(promise = 37, sentence = "fading goes on a tick less, and with none left nothing fades out; loading goes on a tick less, and "
        + "with none left the slide is loaded, and, if it is waited for, shown")
    static void fadingAheadOfLoading(Check check) {
        SlideBonfire x = Shows.with(Shows.slide(10, 1, 0), Shows.slide(10, 2, 1));
        x.changeAhead(0);
        Shows.load(x, 0);
        Shows.programme(x, 0, 1);
        x.goOn();
        x.goOn();
        x.tick(2);
        check.same("shown at the end of the tick", x.shown(), 1);
        check.same("the other one fades out for all of its ticks", x.fadeLeft(), 1);
        check.same("it is on show", x.fading(), 0);
        x.tick(1);
        check.badState("none is left", x::fading);
    }

    @Says(promise = 8, sentence = "with none left the slide is loaded, and, if it is waited for, shown")
    static void loadedAndShown(Check check) {
        SlideBonfire x = Shows.ofAlike(2, 10, 2, 0);
        x.ask(1);
        x.insert(0, 0);
        x.goOn();
        check.same("with a tick left", x.tick(1), 0);
        check.same("another one is loaded, but not shown", x.tick(1), 0);
        check.yes("it is loaded", x.isLoaded(1));
        check.badState("nothing is shown", x::shown);
        check.same("with a tick left again", x.tick(1), 0);
        check.same("the one that is waited for is shown", x.tick(1), 1);
        check.same("this one", x.shown(), 0);
        check.badState("none is waited for any more", x::awaited);
        check.same("that is no hit", x.hits(), 0);
    }

    @Says(promise = 8, sentence = "then, if the programme is not empty, no slide is waited for")
    static void noPaceThroughAnEmptyProgramme(Check check) {
        SlideBonfire x = atPace(3);
        x.takeOut(0);
        x.takeOut(0);
        check.same("empty", x.tick(10), 0);
        check.same("shown all the while", x.shownFor(), 10);
        x.insert(0, 1);
        check.same("with one place, for as many ticks or more", x.tick(1), 1);
    }

    @Says(promise = 8, sentence = "no slide is waited for, and the one that is shown has been shown for as many ticks as the pace tells")
    static void noPaceWhileOneIsWaitedFor(Check check) {
        SlideBonfire x = Shows.with(Shows.slide(10, 1, 0), Shows.slide(10, 9, 0));
        x.changeAhead(0);
        Shows.load(x, 0);
        Shows.programme(x, 0, 1);
        x.changePace(2);
        check.same("nothing is shown: the show does not begin by itself", x.tick(100), 0);
        x.goOn();
        x.goOn();
        check.same("waited for", x.tick(8), 0);
        check.same("one miss", x.misses(), 1);
        check.same("place of the show", x.showPlace(), 1);
        check.same("shown", x.tick(1), 1);
    }

    @Says(promise = 13, sentence = "has been shown for as many ticks as the pace tells (0 to 50, at first 0; 0 for never), or more, "
        + "this tick included, the show goes on")
    static void thisTickIncluded(Check check) {
        for (int pace : new int[] {1, 2, 49, 50}) {
            SlideBonfire x = atPace(pace);
            if (pace > 1) {
                check.same("a tick less than the pace " + pace, x.tick(pace - 1), 0);
            }
            check.same("with the tick that makes it " + pace, x.tick(1), 1);
            check.same("the next slide", x.shown(), 1);
            check.same("for no tick yet", x.shownFor(), 0);
        }
    }

    @Says(promise = 13, sentence = "with none left the slide is loaded, and, if it is waited for, shown; then, if the programme is "
        + "not empty")
    static void paceBehindLoading(Check check) {
        for (int pace = 4; pace <= 6; pace++) {
            SlideBonfire x = Shows.with(Shows.slide(10, 1, 0), Shows.slide(10, 5, 0));
            Shows.load(x, 0);
            Shows.programme(x, 0, 1);
            x.changePace(pace);
            x.goOn();
            check.same("the next one is loaded in as many ticks as the pace " + pace, x.tick(pace), pace >= 5 ? 1 : 0);
            check.same("hits at the pace " + pace, x.hits(), pace >= 5 ? 2 : 1);
            check.same("misses at the pace " + pace, x.misses(), pace >= 5 ? 0 : 1);
        }
    }

    @Says(promise = 13, sentence = "0 for never), or more, this tick included, the show goes on")
    static void never(Check check) {
        SlideBonfire x = atPace(0);
        check.same("pace 0", x.tick(100), 0);
        check.same("shown all the while", x.shownFor(), 100);
        x.changePace(50);
        check.same("no tick, no going on", x.shown(), 0);
        check.same("more ticks than that", x.tick(1), 1);
        check.same("then as many", x.tick(50), 1);
    }

    @Says(promise = 13, sentence = "has been shown for as many ticks as the pace tells")
    static void fromItsLoadingOn(Check check) {
        SlideBonfire x = Shows.ofHeavySlides(2);
        Shows.load(x, 1);
        x.changePace(1);
        x.goOn();
        check.same("shown as its loading ends", x.tick(1), 1);
        check.same("not gone on in that tick", x.shown(), 0);
        check.same("a tick later", x.tick(1), 1);
        check.same("gone on", x.shown(), 1);
    }

    @Says(promise = 8, sentence = "then the loading of a slide begins, if none goes on")
    static void thenLoadingBegins(Check check) {
        SlideBonfire x = Shows.with(Shows.slide(10, 2, 0), Shows.slide(10, 6, 0), Shows.slide(10, 7, 0));
        Shows.load(x, 0);
        Shows.programme(x, 0, 1);
        x.goOn();
        check.same("in good time", x.loading(), 1);
        x.ask(2);
        x.tick(5);
        check.same("one goes on", x.loading(), 1);
        x.tick(1);
        check.same("none does: the next one begins", x.loading(), 2);
        check.same("with all of its ticks", x.loadLeft(), 7);
        check.same("loads", x.loads(), 3);
    }

    @Says(promise = 8, sentence = "the show goes on; then the loading of a slide begins, if none goes on")
    static void loadingBehindThePace(Check check) {
        SlideBonfire x = Shows.with(Shows.slide(10, 1, 0), Shows.slide(10, 5, 0), Shows.slide(10, 5, 0));
        x.changeAhead(0);
        Shows.load(x, 0);
        Shows.programme(x, 0, 1);
        x.changePace(2);
        x.goOn();
        x.tick(2);
        check.same("the pace brings on the waiting", x.awaited(), 1);
        check.same("its loading begins in the same tick", x.loading(), 1);
        check.same("with all of its ticks", x.loadLeft(), 5);
    }

    public static void main(String[] args) {
        Boundaries.run(TickBoundariesTest.class);
    }
}
