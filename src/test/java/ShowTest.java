/** Promises 5 to 8: goOn, ask, burn, tick, and what is told of the show (32 to 39). */
public final class ShowTest {
    private static final Check check = new Check();

    private static void goOn() {
        SlideBonfire x = Shows.ofHeavySlides(3);
        SlideBonfire empty = new SlideBonfire();
        check.badState("5 empty programme", empty::goOn);
        empty.addSlide(1, 1, 0);
        check.badState("5 slides, but no places", empty::goOn);
        check.no("5 not loaded", x.goOn());
        check.same("5 waited for", x.awaited(), 0);
        check.same("5 a miss", x.misses(), 1);
        int saved = x.savedStates();
        check.badState("5 one is waited for", x::goOn);
        check.same("5 nothing is saved", x.savedStates(), saved);
        x.tick(1);
        Shows.load(x, 1);
        check.yes("5 loaded", x.goOn());
        check.same("5 shown", x.shown(), 1);
        check.same("5 a hit", x.hits(), 1);
        check.same("5 shown for no tick yet", x.shownFor(), 0);
        x.undo();
        check.same("5 undone", x.shown(), 0);
        x.goOn();
        x.goOn();
        x.tick(1);
        check.yes("5 behind the last one the first one", x.goOn());
        check.same("5 the first place", x.showPlace(), 0);
    }

    private static void goOnToWhatIsBeingLoaded() {
        SlideBonfire x = Shows.ofFour();
        check.same("5 in good time", x.loading(), 0);
        x.tick(2);
        check.no("5 being loaded is not loaded", x.goOn());
        check.same("5 its loading goes on", x.loadLeft(), 3);
        check.same("5 loads", x.loads(), 1);
        check.same("5 shown in these ticks", x.tick(3), 1);
        check.same("5 shown", x.shown(), 0);
    }

    private static void waitedForIsNoLongerAsked() {
        SlideBonfire x = Shows.with(Shows.slide(10, 5, 0), Shows.slide(10, 5, 0), Shows.slide(10, 5, 0));
        x.ask(0);
        x.ask(1);
        x.ask(2);
        Shows.programme(x, 2);
        x.goOn();
        check.same("5 no longer asked for", x.asked(), 1);
        check.same("5 the other one is", x.askedAt(0), 1);
        x.tick(5);
        check.same("5 what is waited for is loaded ahead of what was asked for", x.loading(), 2);
        x.tick(5);
        check.same("5 then what was asked for", x.loading(), 1);
    }

    private static void fades() {
        SlideBonfire x = Shows.with(Shows.slide(10, 1, 5), Shows.slide(10, 1, 3), Shows.slide(10, 1, 0));
        Shows.load(x, 0, 1, 2);
        Shows.programme(x, 0, 1, 1, 0, 2);
        x.goOn();
        check.badState("5 nothing was shown ahead of it", x::fading);
        check.same("37 none", x.fadeLeft(), 0);
        x.goOn();
        check.same("36 the one that was shown fades out", x.fading(), 0);
        check.same("37 as many ticks as the new one fades in", x.fadeLeft(), 3);
        check.yes("27 fades out", x.isOnShow(0));
        check.yes("27 is shown", x.isOnShow(1));
        check.no("27 neither", x.isOnShow(2));
        x.tick(1);
        x.goOn();
        check.same("5 the same slide again: what fades out goes on", x.fading(), 0);
        check.same("5 as it was", x.fadeLeft(), 2);
        check.same("39 but it is shown anew", x.shownFor(), 0);
        x.goOn();
        check.same("5 the one that faded out is shown", x.shown(), 0);
        check.same("5 the other one fades out", x.fading(), 1);
        check.same("5 for its ticks", x.fadeLeft(), 5);
        x.goOn();
        check.badState("5 without ticks to fade nothing fades out", x::fading);
        check.same("5 and no ticks are left", x.fadeLeft(), 0);
        check.no("5 what faded out until then does no more", x.isOnShow(1));
        check.no("5 nor does what was shown", x.isOnShow(0));
    }

    private static void ask() {
        SlideBonfire x = Shows.with(Shows.slide(10, 3, 0), Shows.slide(10, 3, 0), Shows.slide(10, 3, 0), Shows.slide(10, 3, 0));
        check.badIndex("6 slide -1", () -> x.ask(-1));
        check.badIndex("6 slide 4", () -> x.ask(4));
        check.same("6 its loading begins at once", x.ask(2), 0);
        check.same("6 loading", x.loading(), 2);
        check.badState("6 being loaded", () -> x.ask(2));
        check.same("6 asked for", x.ask(1), 1);
        check.same("6 and another one", x.ask(0), 2);
        check.badState("6 asked for already", () -> x.ask(0));
        check.same("43 the first one that was asked for", x.askedAt(0), 1);
        check.same("43 the next one", x.askedAt(1), 0);
        check.badIndex("43 place 2", () -> x.askedAt(2));
        check.badIndex("43 place -1", () -> x.askedAt(-1));
        Shows.programme(x, 3);
        x.goOn();
        check.badState("6 waited for", () -> x.ask(3));
        x.undo();
        x.tick(3);
        check.badState("6 loaded", () -> x.ask(2));
        check.same("6 the first one is loaded", x.loading(), 1);
        check.same("42 is asked for no longer", x.asked(), 1);
        x.undo();
        check.same("6 undone", x.loading(), 2);
    }

    private static void burn() {
        SlideBonfire x = Shows.with(Shows.slide(20, 4, 2), Shows.slide(30, 4, 2), Shows.slide(40, 4, 2));
        x.changeAhead(0);
        Shows.load(x, 0, 1);
        Shows.programme(x, 0, 1);
        check.badIndex("7 slide -1", () -> x.burn(-1));
        check.badIndex("7 slide 3", () -> x.burn(3));
        check.badState("7 not loaded", () -> x.burn(2));
        x.ask(2);
        check.badState("7 being loaded", () -> x.burn(2));
        x.tick(4);
        x.goOn();
        check.badState("7 shown", () -> x.burn(0));
        x.goOn();
        check.badState("7 fades out", () -> x.burn(0));
        x.tick(2);
        int taken = x.takenByAccount();
        check.same("7 memory that becomes free", x.burn(0), 20);
        check.same("7 by account", x.takenByAccount(), taken - 20);
        check.no("7 not loaded any more", x.isLoaded(0));
        check.same("7 an ember", x.glowOf(0), 5);
        check.same("7 burnt times", x.burntTimes(0), 1);
        check.same("7 burnings", x.burnings(), 1);
        int time = x.time();
        x.undo();
        check.yes("7 undone", x.isLoaded(0));
        check.same("7 only that", x.time(), time);
        x.changeAhead(1);
        x.burn(0);
        check.same("7 behind it loading begins, here of the same slide", x.loading(), 0);
        check.same("7 in half of its ticks", x.loadLeft(), 2);
    }

    private static void tick() {
        SlideBonfire x = Shows.ofFour();
        check.badArgument("8 none", () -> x.tick(0));
        check.badArgument("8 below", () -> x.tick(-1));
        check.badArgument("8 too many", () -> x.tick(101));
        check.same("8 nothing is changed", x.time(), 0);
        x.goOn();
        check.same("8 not yet shown", x.tick(4), 0);
        check.same("8 waited", x.waited(), 4);
        check.same("8 shown", x.tick(1), 1);
        check.same("8 the tick in which it is shown was waited, too", x.waited(), 5);
        check.badState("38 none is waited for any more", x::awaited);
        check.same("8 in the same tick the next loading begins", x.loading(), 1);
        check.same("8 with all of its ticks", x.loadLeft(), 4);
        check.same("8 time", x.time(), 5);
        x.undo();
        check.same("8 undone", x.time(), 4);
        check.same("8 the most", x.tick(100), 1);
        check.same("8 time again", x.time(), 104);
    }

    private static void fadingGoesOnBeforeLoading() {
        SlideBonfire x = Shows.ofFour();
        x.goOn();
        x.tick(9);
        check.yes("8 slide 1", x.goOn());
        check.no("8 slide 2 is being loaded", x.goOn());
        x.tick(7);
        check.same("8 fades out from now on", x.fading(), 1);
        check.same("8 with all of its ticks", x.fadeLeft(), 10);
        check.badState("8 no room without burning: none is loaded in good time", x::loading);
        check.no("8 on to slide 3", x.goOn());
        check.same("8 slide 0 is burnt for it", x.burntTimes(0), 1);
        check.same("8 its ember", x.glowOf(0), 5);
        x.tick(1);
        check.same("8 glows a tick less", x.glowOf(0), 4);
        check.same("8 fades a tick less", x.fadeLeft(), 9);
        x.tick(8);
        check.same("8 the ember is gone", x.glowOf(0), 0);
        check.same("8 one tick left", x.fadeLeft(), 1);
        check.yes("8 on show yet", x.isOnShow(1));
        x.tick(1);
        check.no("8 not on show any more", x.isOnShow(1));
        check.badState("8 nothing fades out", x::fading);
        check.same("39 shown while another one is waited for", x.shownFor(), 10);
    }

    private static void pace() {
        SlideBonfire x = Shows.with(Shows.slide(10, 1, 0), Shows.slide(10, 1, 0), Shows.slide(10, 1, 0));
        Shows.load(x, 0, 1);
        Shows.programme(x, 0, 1);
        x.changePace(3);
        check.same("8 nothing is shown yet: the show does not go on", x.tick(5), 0);
        x.goOn();
        check.same("8 two ticks", x.tick(2), 0);
        check.same("39 two ticks", x.shownFor(), 2);
        check.same("8 the third one", x.tick(1), 1);
        check.same("8 the next slide", x.shown(), 1);
        check.same("39 anew", x.shownFor(), 0);
        check.same("8 three shows in nine ticks", x.tick(9), 3);
        check.same("57 hits by the pace, too", x.hits(), 5);
        x.takeOut(0);
        x.takeOut(0);
        check.same("8 an empty programme", x.tick(6), 0);
        check.same("39 it is shown all the while", x.shownFor(), 6);
        Shows.programme(x, 1);
        check.same("8 shown for more ticks than that", x.tick(1), 1);
        x.changePace(0);
        check.same("8 never", x.tick(50), 0);
    }

    private static void paceToTheSameSlide() {
        SlideBonfire x = Shows.with(Shows.slide(10, 1, 0));
        Shows.load(x, 0);
        Shows.programme(x, 0);
        x.changePace(3);
        x.goOn();
        check.same("8 each showing counts, also of the same slide again", x.tick(7), 2);
        check.same("39 anew each time", x.shownFor(), 1);
    }

    private static void paceToWhatIsNotLoaded() {
        SlideBonfire x = Shows.with(Shows.slide(10, 1, 0), Shows.slide(10, 4, 0));
        x.changeAhead(0);
        Shows.load(x, 0);
        Shows.programme(x, 0, 1);
        x.changePace(2);
        x.goOn();
        check.same("8 goes on to wait", x.tick(2), 0);
        check.same("8 awaited", x.awaited(), 1);
        check.same("8 loading begins in the same tick", x.loadLeft(), 4);
        check.same("58 a miss", x.misses(), 1);
        check.same("8 while one is waited for the show does not go on", x.tick(3), 0);
        check.same("39 shown until then", x.shownFor(), 5);
        check.same("8 shown", x.tick(1), 1);
        check.same("39 for no tick yet", x.shownFor(), 0);
        check.same("8 one tick is not enough", x.tick(1), 0);
        check.same("39 for one tick", x.shownFor(), 1);
        check.same("8 with the second tick it goes on", x.tick(1), 1);
        check.same("8 to the first one", x.shown(), 0);
    }

    private static void shownByLoadingWithThePaceOne() {
        SlideBonfire x = Shows.with(Shows.slide(10, 3, 0), Shows.slide(10, 1, 0));
        Shows.programme(x, 0, 1);
        x.changePace(1);
        x.goOn();
        check.same("8 shown as its loading ends", x.tick(3), 1);
        check.same("13 the show does not go on in the tick whose end shows it", x.shown(), 0);
        check.same("39 the ticks of waiting do not count", x.shownFor(), 0);
        check.same("13 it is shown for one tick", x.tick(1), 1);
        check.same("13 then the next one", x.shown(), 1);
        check.same("39 shown by the pace: for no tick yet", x.shownFor(), 0);
        check.same("57 it was loaded meanwhile", x.hits(), 1);
    }

    private static void shownInPlaceOfAnother() {
        SlideBonfire x = Shows.ofHeavySlides(2);
        x.goOn();
        x.tick(4);
        check.same("39 one tick of loading, three of being shown", x.shownFor(), 3);
        x.goOn();
        check.same("8 the other one is shown", x.tick(1), 1);
        check.same("39 the other one's ticks do not count", x.shownFor(), 0);
        x.tick(1);
        check.same("39 its first tick", x.shownFor(), 1);
    }

    private static void told() {
        SlideBonfire x = Shows.ofHeavySlides(3);
        check.same("32 places", x.places(), 3);
        check.same("33 slideAt", x.slideAt(2), 2);
        check.badIndex("33 place -1", () -> x.slideAt(-1));
        check.badIndex("33 place 3", () -> x.slideAt(3));
        check.badState("34 nothing yet", x::showPlace);
        check.badState("35 none", x::shown);
        check.badState("36 none", x::fading);
        check.badState("38 none", x::awaited);
        check.badState("39 none", x::shownFor);
        x.goOn();
        check.same("34 waited for", x.showPlace(), 0);
        check.badState("35 none is shown while the first one is waited for", x::shown);
        check.same("38 awaited", x.awaited(), 0);
        x.tick(1);
        check.same("34 shown", x.showPlace(), 0);
        check.same("35 shown", x.shown(), 0);
        x.goOn();
        check.same("34 waited for again", x.showPlace(), 1);
        check.same("35 the one before is shown yet", x.shown(), 0);
    }

    public static void main(String[] args) {
        goOn();
        goOnToWhatIsBeingLoaded();
        waitedForIsNoLongerAsked();
        fades();
        ask();
        burn();
        tick();
        fadingGoesOnBeforeLoading();
        pace();
        paceToTheSameSlide();
        paceToWhatIsNotLoaded();
        shownByLoadingWithThePaceOne();
        shownInPlaceOfAnother();
        told();
        check.end();
    }
}
