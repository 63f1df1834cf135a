/** Promises 5, 30 and 33 to 39: how the show goes on round and round, and what fades out. */
public final class ShowBoundariesTest {

    /** Slides with these fades, all of them loaded, and in the programme in turn. */
    private static SlideBonfire withFades(int... fades) {
        SlideBonfire x = new SlideBonfire();
        for (int i = 0; i < fades.length; i++) {
            x.addSlide(10, 1, fades[i]);
            Shows.load(x, i);
        }
        for (int i = 0; i < fades.length; i++) {
            x.insert(i, i);
        }
        return x;
    }

    @Says(promise = 5, sentence = "Throws IllegalStateException if the programme is empty, or a slide is waited for")
    static void mayNotGoOn(Check check) {
        check.badState("of a new show", SlideBonfire::new, s -> s.goOn());
        check.badState("with slides, but without places", () -> Shows.ofPlaces(0), s -> s.goOn());
        check.badState("waited for, being loaded", Shows::waiting, s -> s.goOn());
        check.badState("waited for behind another loading", () -> {
            SlideBonfire x = Shows.ofAlike(2, 10, 5, 0);
            x.ask(0);
            x.insert(0, 1);
            x.goOn();
            return x;
        }, s -> s.goOn());
        SlideBonfire x = Shows.ofPlaces(1);
        check.no("one place is enough", x.goOn());
        x.takeOut(0);
        check.badState("both of it", () -> x.goOn());
        x.tick(3);
        check.badState("shown, but the programme is empty", () -> x.goOn());
    }

    @Says(promise = 5, sentence = "Returns true if it is shown at once.")
    static void shownAtOnce(Check check) {
        SlideBonfire x = Shows.ofAlike(1, 10, 3, 0);
        x.insert(0, 0);
        x.tick(2);
        x.keep(0);
        check.no("a tick of its loading is left", x.goOn());
        x.goBack(0);
        x.tick(1);
        check.yes("no tick is left", x.goOn());
    }

    @Says(promise = 5, sentence = "The show goes on from a place to the next one, behind the last one to the first one; "
        + "at first to the first one.")
    static void roundAndRound(Check check) {
        SlideBonfire x = withFades(0, 0, 0);
        int[] due = {0, 1, 2, 0, 1, 2, 0};
        for (int place : due) {
            x.goOn();
            check.same("the place", x.showPlace(), place);
            check.same("its slide", x.shown(), place);
        }
        x = withFades(0);
        x.goOn();
        x.goOn();
        check.same("of one place to itself", x.showPlace(), 0);
        x = Shows.ofPlaces(24);
        for (int i = 0; i < 24; i++) {
            x.goOn();
            x.tick(3);
            check.same("of many places", x.showPlace(), i);
        }
        x.goOn();
        check.same("behind the twenty-fourth one", x.showPlace(), 0);
    }

    @Says(promise = 5, sentence = "(If no place of the show is left, as it was the first one and was taken out, it goes on to "
        + "the first one, too.)")
    static void noPlaceOfTheShowIsLeft(Check check) {
        SlideBonfire x = withFades(0, 0, 0);
        x.goOn();
        x.takeOut(0);
        check.badState("none is left", x::showPlace);
        check.same("what is shown stays", x.shown(), 0);
        x.goOn();
        check.same("to the first one", x.showPlace(), 0);
        check.same("its slide", x.shown(), 1);
        x.takeOut(1);
        x.takeOut(0);
        x.insert(0, 2);
        check.badState("one put in anew is not that of the show", x::showPlace);
        x.goOn();
        check.same("to the first one again", x.showPlace(), 0);
    }

    @Says(promise = 5, sentence = "When the show goes on, and the slide there is loaded, it is shown; otherwise it is waited for.")
    static void shownOrWaitedFor(Check check) {
        SlideBonfire x = Shows.ofHeavySlides(2);
        Shows.load(x, 0);
        x.goOn();
        check.same("loaded", x.shown(), 0);
        check.badState("not waited for", x::awaited);
        x.goOn();
        check.same("not loaded", x.awaited(), 1);
        check.same("the one before is shown yet", x.shown(), 0);
        x.undo();
        x.ask(1);
        check.no("being loaded is not loaded", x.goOn());
        check.same("waited for", x.awaited(), 1);
    }

    @Says(promise = 36, sentence = "When a slide is shown, and another one was shown ahead of it, that one fades out, for as "
        + "many ticks as the new one fades in, if these are not 0")
    static void fadesOut(Check check) {
        for (int fade : new int[] {0, 1, 10}) {
            SlideBonfire x = withFades(7, fade);
            x.goOn();
            check.badState("nothing was shown ahead of the first one", x::fading);
            check.same("no ticks", x.fadeLeft(), 0);
            x.goOn();
            check.same("fade " + fade, x.fadeLeft(), fade);
            for (int i = 0; i < fade; i++) {
                check.same("fade " + fade + ", the one that fades out", x.fading(), 0);
                x.tick(1);
            }
            check.badState("fade " + fade + ", then nothing", x::fading);
            check.same("fade " + fade + ", no ticks", x.fadeLeft(), 0);
        }
    }

    @Says(promise = 36, sentence = "one that was fading out until then does so no more")
    static void fadesOutNoMore(Check check) {
        SlideBonfire x = withFades(5, 4, 3, 0);
        x.goOn();
        x.goOn();
        x.goOn();
        check.same("another one fades out", x.fading(), 1);
        check.same("for its ticks", x.fadeLeft(), 3);
        check.no("the first one is not on show any more", x.isOnShow(0));
        x.goOn();
        check.badState("without ticks nothing fades out", x::fading);
        check.same("nothing is left of it", x.fadeLeft(), 0);
        check.no("nor is the second one on show", x.isOnShow(1));
        check.no("nor the third one", x.isOnShow(2));
    }

    @Says(promise = 36, sentence = "one that was fading out until then does so no more")
    static void fadesInAgain(Check check) {
        SlideBonfire x = withFades(6, 9);
        x.goOn();
        x.goOn();
        x.goOn();
        check.same("the one that faded out is shown", x.shown(), 0);
        check.same("the other one fades out", x.fading(), 1);
        check.same("for its ticks", x.fadeLeft(), 6);
    }

    @Says(promise = 36, sentence = "If the same slide is shown again, what fades out goes on as it was.")
    static void sameSlideAgain(Check check) {
        SlideBonfire x = withFades(3, 5);
        x.insert(2, 1);
        x.goOn();
        x.goOn();
        x.tick(4);
        x.goOn();
        check.same("the same slide at another place", x.showPlace(), 2);
        check.same("what fades out", x.fading(), 0);
        check.same("goes on as it was", x.fadeLeft(), 1);
        x.tick(1);
        check.badState("and ends as it would have done", x::fading);
    }

    @Says(promise = 36, sentence = "If the same slide is shown again, what fades out goes on as it was.")
    static void sameSlideAgainAlone(Check check) {
        SlideBonfire x = withFades(9);
        x.goOn();
        x.goOn();
        check.same("round to the same place", x.hits(), 2);
        check.badState("nothing faded out, and so it stays", x::fading);
        check.same("without ticks", x.fadeLeft(), 0);
    }

    @Says(promise = 30, sentence = "Returns the places, up to those of the programme.")
    static void nextUses(Check check) {
        SlideBonfire x = Shows.ofAlike(3, 10, 1, 0);
        Shows.programme(x, 0);
        check.same("of one place", x.nextUse(0), 1);
        x.goOn();
        check.same("of one place, that of the show", x.nextUse(0), 1);
        x = Shows.ofAlike(3, 10, 1, 0);
        Shows.programme(x, 0, 1, 2);
        check.same("at first the first place is the next one", x.nextUse(0), 1);
        check.same("the last one", x.nextUse(2), 3);
        x.goOn();
        check.same("that of the show is the farthest one", x.nextUse(0), 3);
        check.same("the next one", x.nextUse(1), 1);
        x = Shows.ofPlaces(24);
        x.addSlide(1, 1, 0);
        x.takeOut(23);
        x.insert(23, 1);
        check.same("the twenty-fourth place", x.nextUse(1), 24);
        x.goOn();
        check.same("a place nearer", x.nextUse(1), 23);
    }

    @Says(promise = 30, sentence = "1 for the next place of the programme, and so on, round and round")
    static void nearerOneOfTwo(Check check) {
        SlideBonfire x = Shows.ofAlike(2, 10, 1, 0);
        Shows.programme(x, 0, 1, 0, 1);
        x.goOn();
        check.same("at two places, the nearer one", x.nextUse(0), 2);
        x.tick(1);
        x.goOn();
        x.tick(1);
        x.goOn();
        x.tick(1);
        x.goOn();
        check.same("at the last place, round to the first one", x.nextUse(0), 1);
        check.same("and to the second one", x.nextUse(1), 2);
    }

    @Says(promise = 30, sentence = "- slide: the number of the slide")
    static void nextUseOfFirstAndLast(Check check) {
        SlideBonfire x = Shows.ofAlike(16, 1, 1, 0);
        Shows.programme(x, 15, 0);
        check.same("the first slide", x.nextUse(0), 2);
        check.same("the last slide", x.nextUse(15), 1);
    }

    @Says(promise = 30, sentence = "Throws IndexOutOfBoundsException if there is no such slide")
    static void nextUseOfNone(Check check) {
        check.noSuchSlide((s, slide) -> s.nextUse(slide));
    }

    @Says(promise = 30, sentence = "Throws IllegalStateException if it is not in the programme")
    static void notInTheProgramme(Check check) {
        check.badState("loaded, but not in it", Shows::busy, s -> s.nextUse(2));
        check.badState("an empty programme", () -> Shows.ofPlaces(0), s -> s.nextUse(0));
        SlideBonfire x = Shows.ofPlaces(2);
        x.goOn();
        x.takeOut(1);
        check.same("at one place yet", x.nextUse(0), 1);
        x.takeOut(0);
        check.badState("taken out, though it is waited for", () -> x.nextUse(0));
    }

    @Says(promise = 33, sentence = "- place: 0 for the first place of the programme")
    static void slidesAtPlaces(Check check) {
        SlideBonfire x = Shows.ofHeavySlides(3);
        check.same("the first place", x.slideAt(0), 0);
        check.same("the last place", x.slideAt(2), 2);
        check.same("the twenty-fourth place", Shows.ofPlaces(24).slideAt(23), 0);
    }

    @Says(promise = 33, sentence = "Throws IndexOutOfBoundsException if the programme has no such place")
    static void noSlideAtPlace(Check check) {
        check.badIndex("of a new show", SlideBonfire::new, s -> s.slideAt(0));
        check.badIndex("of an empty programme", () -> Shows.ofPlaces(0), s -> s.slideAt(0));
        check.badIndex("place 24 of 24", () -> Shows.ofPlaces(24), s -> s.slideAt(24));
        for (int place : new int[] {-1, 3, Integer.MIN_VALUE, Integer.MAX_VALUE}) {
            check.badIndex("place " + place + " of 3", Shows::busy, s -> s.slideAt(place));
        }
        check.badIndex("a place that was taken out", () -> {
            SlideBonfire x = Shows.ofPlaces(2);
            x.takeOut(0);
            return x;
        }, s -> s.slideAt(1));
    }

    @Says(promise = 34, sentence = "Throws IllegalStateException if nothing was shown or waited for yet, or no place of the show "
        + "is left")
    static void noShowPlace(Check check) {
        check.badState("of a new show", SlideBonfire::new, s -> s.showPlace());
        check.badState("with places, but before the show began", () -> Shows.ofPlaces(24), s -> s.showPlace());
        check.badState("the only place was taken out", () -> takenOut(1), s -> s.showPlace());
        check.badState("the first place was taken out", () -> takenOut(2), s -> s.showPlace());
    }

    private static SlideBonfire takenOut(int places) {
        SlideBonfire x = Shows.ofPlaces(places);
        x.goOn();
        x.takeOut(0);
        return x;
    }

    @Says(promise = 34, sentence = "Returns the place of the show: of the slide that is shown, or waited for.")
    static void showPlaces(Check check) {
        SlideBonfire x = Shows.ofHeavySlides(2);
        x.goOn();
        check.same("waited for", x.showPlace(), 0);
        x.tick(1);
        check.same("shown", x.showPlace(), 0);
        x.goOn();
        check.same("waited for, while the one before is shown", x.showPlace(), 1);
    }

    @Says(promise = 35, sentence = "Throws IllegalStateException if none is")
    static void noneIsShown(Check check) {
        check.badState("of a new show", SlideBonfire::new, s -> s.shown());
        check.badState("loaded, but not shown", () -> withFades(0), s -> s.shown());
        check.badState("the first one is waited for", Shows::ofFirstWaited, s -> s.shown());
        SlideBonfire x = withFades(0);
        x.goOn();
        check.same("slide 0 is shown", x.shown(), 0);
    }

    @Says(promise = 36, sentence = "Throws IllegalStateException if none does")
    static void noneFadesOut(Check check) {
        check.badState("of a new show", SlideBonfire::new, s -> s.fading());
        check.badState("the first one is shown", () -> {
            SlideBonfire x = withFades(9);
            x.goOn();
            return x;
        }, s -> s.fading());
        SlideBonfire x = Shows.busy();
        x.tick(x.fadeLeft() - 1);
        check.same("a tick is left", x.fading(), 1);
        x.tick(1);
        check.badState("none is left", x::fading);
    }

    @Says(promise = 37, sentence = "Returns the ticks, 0 if none goes on.")
    static void fadeLeft(Check check) {
        check.same("of a new show", new SlideBonfire().fadeLeft(), 0);
        SlideBonfire x = withFades(0, 10);
        x.goOn();
        x.goOn();
        for (int left = 10; left >= 0; left--) {
            check.same("left", x.fadeLeft(), left);
            x.tick(1);
        }
        check.same("never below 0", x.fadeLeft(), 0);
    }

    @Says(promise = 38, sentence = "Throws IllegalStateException if none is")
    static void noneIsWaitedFor(Check check) {
        check.badState("of a new show", SlideBonfire::new, s -> s.awaited());
        check.badState("being loaded, but not waited for", Shows::busy, s -> s.awaited());
        SlideBonfire x = Shows.waiting();
        x.tick(x.loadLeft() - 1);
        check.same("a tick is left", x.awaited(), 3);
        x.tick(1);
        check.badState("it is shown", x::awaited);
    }

    @Says(promise = 38, sentence = "Returns the slide that is waited for.")
    static void waitedForWithoutItsPlace(Check check) {
        SlideBonfire x = Shows.ofFirstWaited();
        x.takeOut(0);
        check.same("its place is taken out", x.awaited(), 0);
        check.same("it is shown all the same", x.tick(3), 1);
        check.same("shown", x.shown(), 0);
    }

    @Says(promise = 39, sentence = "Throws IllegalStateException if none is")
    static void shownForOfNone(Check check) {
        check.badState("of a new show", SlideBonfire::new, s -> s.shownFor());
        check.badState("the first one is waited for", Shows::ofFirstWaited, s -> s.shownFor());
    }

    @Says(promise = 39, sentence = "Returns for how many ticks the slide that is shown has been shown.")
    static void shownFor(Check check) {
        SlideBonfire x = withFades(0, 0);
        x.goOn();
        for (int i = 0; i < 5; i++) {
            check.same("shown at once", x.shownFor(), i);
            x.tick(1);
        }
        x.goOn();
        check.same("another one", x.shownFor(), 0);
        x.takeOut(0);
        x.takeOut(0);
        x.tick(100);
        check.same("also if the programme is empty", x.shownFor(), 100);
        x = Shows.ofPlaces(1);
        x.goOn();
        x.tick(3);
        check.same("shown as its loading ends", x.shownFor(), 0);
        x.tick(1);
        check.same("a tick later", x.shownFor(), 1);
        x.goOn();
        check.same("shown again: anew", x.shownFor(), 0);
        x = Shows.waiting();
        int before = x.shownFor();
        x.tick(1);
        check.same("while another one is waited for", x.shownFor(), before + 1);
    }

    public static void main(String[] args) {
        Boundaries.run(ShowBoundariesTest.class);
    }
}
