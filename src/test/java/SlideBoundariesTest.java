import java.util.function.Supplier;

/** Promises 1 to 4 and 22 to 29: as few and as many slides and places as there may be, and what they are made of. */
public final class SlideBoundariesTest {
    private static final int[] FAR_OFF = {Integer.MIN_VALUE, Integer.MAX_VALUE};

    /** The first slide is 1, 20, 10, the last one 16, 5, 0. */
    private static SlideBonfire ofSixteen() {
        SlideBonfire x = new SlideBonfire();
        x.changeAhead(0);
        for (int i = 0; i < 16; i++) {
            x.addSlide(1 + i, 20 - i, Math.max(0, 10 - i));
        }
        return x;
    }

    @Says(promise = 1, sentence = "Creates a show without slides, with empty slots and an empty buffer.")
    static void newObject(Check check) {
        SlideBonfire x = new SlideBonfire();
        check.same("slides()", x.slides(), 0);
        check.same("places()", x.places(), 0);
        check.same("savedStates()", x.savedStates(), 0);
        check.same("firstError()", x.firstError(), 0);
        check.same("clearBuffer()", x.clearBuffer(), 0);
        check.badState("goBack(0)", SlideBonfire::new, s -> s.goBack(0));
        check.badState("goBack(1)", SlideBonfire::new, s -> s.goBack(1));
    }

    @Says(promise = 2, sentence = "- cost: 1 to 50: how much memory it takes")
    static void costs(Check check) {
        SlideBonfire x = new SlideBonfire();
        check.same("cost 1", x.costOf(x.addSlide(1, 5, 5)), 1);
        check.same("cost 50", x.costOf(x.addSlide(50, 5, 5)), 50);
        check.badArgument("cost 0", Shows::busy, s -> s.addSlide(0, 5, 5));
        check.badArgument("cost -1", Shows::busy, s -> s.addSlide(-1, 5, 5));
        check.badArgument("cost 51", Shows::busy, s -> s.addSlide(51, 5, 5));
        for (int cost : FAR_OFF) {
            check.badArgument("cost " + cost, Shows::busy, s -> s.addSlide(cost, 5, 5));
        }
    }

    @Says(promise = 2, sentence = "- load: 1 to 20: how many ticks it takes to load it")
    static void loads(Check check) {
        SlideBonfire x = new SlideBonfire();
        check.same("load 1", x.loadOf(x.addSlide(5, 1, 5)), 1);
        check.same("load 20", x.loadOf(x.addSlide(5, 20, 5)), 20);
        check.badArgument("load 0", Shows::busy, s -> s.addSlide(5, 0, 5));
        check.badArgument("load -1", Shows::busy, s -> s.addSlide(5, -1, 5));
        check.badArgument("load 21", Shows::busy, s -> s.addSlide(5, 21, 5));
        for (int load : FAR_OFF) {
            check.badArgument("load " + load, Shows::busy, s -> s.addSlide(5, load, 5));
        }
    }

    @Says(promise = 2, sentence = "- fade: 0 to 10: how many ticks it fades in")
    static void fades(Check check) {
        SlideBonfire x = new SlideBonfire();
        check.same("fade 0", x.fadeOf(x.addSlide(5, 5, 0)), 0);
        check.same("fade 10", x.fadeOf(x.addSlide(5, 5, 10)), 10);
        check.badArgument("fade -1", Shows::busy, s -> s.addSlide(5, 5, -1));
        check.badArgument("fade 11", Shows::busy, s -> s.addSlide(5, 5, 11));
        for (int fade : FAR_OFF) {
            check.badArgument("fade " + fade, Shows::busy, s -> s.addSlide(5, 5, fade));
        }
    }

    @Says(promise = 2, sentence = "Throws IllegalArgumentException if cost, load or fade is out of range")
    static void anyOutOfRange(Check check) {
        check.badArgument("of a new show", SlideBonfire::new, s -> s.addSlide(0, 1, 0));
        check.badArgument("all too small", Shows::busy, s -> s.addSlide(0, 0, -1));
        check.badArgument("all too large", Shows::busy, s -> s.addSlide(51, 21, 11));
        check.badArgument("one too small, one too large", Shows::busy, s -> s.addSlide(50, 0, 11));
        check.same("all the least", new SlideBonfire().addSlide(1, 1, 0), 0);
        check.same("all the most", new SlideBonfire().addSlide(50, 20, 10), 0);
    }

    @Says(promise = 2, sentence = "Throws IllegalStateException if there are 16 slides")
    static void seventeenthSlide(Check check) {
        check.same("the sixteenth", Shows.ofAlike(15, 1, 1, 0).addSlide(1, 1, 0), 15);
        check.badState("the seventeenth", () -> Shows.ofAlike(16, 1, 1, 0), s -> s.addSlide(1, 1, 0));
    }

    @Says(promise = 2, sentence = "If several exceptions apply, the one that is named first in the throws clause is thrown.")
    static void seventeenthOutOfRange(Check check) {
        Supplier<SlideBonfire> full = () -> Shows.ofAlike(16, 1, 1, 0);
        check.badArgument("a wrong cost", full, s -> s.addSlide(0, 1, 0));
        check.badArgument("a wrong load", full, s -> s.addSlide(1, 21, 0));
        check.badArgument("a wrong fade", full, s -> s.addSlide(1, 1, -1));
    }

    @Says(promise = 2, sentence = "Returns the number of the slide.")
    static void numbers(Check check) {
        SlideBonfire x = new SlideBonfire();
        for (int i = 0; i < 16; i++) {
            check.same("slide " + i, x.addSlide(i + 1, 1, 0), i);
        }
    }

    @Says(promise = 22, sentence = "There are at most 16 slides, numbered from 0 in the order in which they were added.")
    static void sixteenSlides(Check check) {
        SlideBonfire x = new SlideBonfire();
        for (int i = 0; i < 16; i++) {
            x.addSlide(50 - i, 20 - i, i % 11);
        }
        for (int i = 0; i < 16; i++) {
            check.same("cost of slide " + i, x.costOf(i), 50 - i);
            check.same("load of slide " + i, x.loadOf(i), 20 - i);
            check.same("fade of slide " + i, x.fadeOf(i), i % 11);
        }
    }

    @Says(promise = 22, sentence = "Returns 0 to 16.")
    static void slides(Check check) {
        SlideBonfire x = new SlideBonfire();
        for (int i = 0; i < 16; i++) {
            check.same("slides()", x.slides(), i);
            x.addSlide(1, 1, 0);
        }
        check.same("slides()", x.slides(), 16);
    }

    @Says(promise = 3, sentence = "- place: 0 for ahead of the first one, up to the places of the programme")
    static void placesToInsert(Check check) {
        SlideBonfire x = Shows.ofAlike(4, 1, 1, 0);
        check.same("into an empty programme", x.insert(0, 1), 1);
        check.same("ahead of the first one", x.insert(0, 2), 2);
        check.same("behind all", x.insert(2, 3), 3);
        check.same("the first one", x.slideAt(0), 2);
        check.same("between", x.slideAt(1), 1);
        check.same("the last one", x.slideAt(2), 3);
        check.badIndex("ahead of that", Shows::busy, s -> s.insert(-1, 0));
        check.badIndex("behind that", Shows::busy, s -> s.insert(4, 0));
        check.badIndex("place 1 of an empty programme", () -> Shows.ofAlike(4, 1, 1, 0), s -> s.insert(1, 0));
    }

    @Says(promise = 3, sentence = "Puts a slide into the programme, ahead of a place or behind all")
    static void othersStayInTurn(Check check) {
        for (int place = 0; place <= 23; place++) {
            SlideBonfire x = Shows.ofAlike(16, 1, 1, 0);
            for (int i = 0; i < 23; i++) {
                x.insert(i, i % 15);
            }
            x.insert(place, 15);
            for (int i = 0; i < 24; i++) {
                check.same("insert(" + place + ", 15), place " + i, x.slideAt(i), i == place ? 15 : (i < place ? i : i - 1) % 15);
            }
            check.same("takeOut(" + place + ")", x.takeOut(place), 15);
            for (int i = 0; i < 23; i++) {
                check.same("takeOut(" + place + "), place " + i, x.slideAt(i), i % 15);
            }
        }
    }

    @Says(promise = 3, sentence = "- slide: the number of the slide")
    static void slidesToInsert(Check check) {
        SlideBonfire x = Shows.ofAlike(16, 1, 1, 0);
        check.same("the first slide", x.insert(0, 0), 1);
        check.same("the last slide", x.insert(0, 15), 2);
        check.same("it is there", x.slideAt(0), 15);
    }

    @Says(promise = 3, sentence = "Throws IndexOutOfBoundsException if there is no such place or slide")
    static void noSuchPlaceOrSlide(Check check) {
        check.noSuchSlide((s, slide) -> s.insert(0, slide));
        check.badIndex("place -1", Shows::busy, s -> s.insert(-1, 0));
        check.badIndex("place 4 of 3", Shows::busy, s -> s.insert(4, 0));
        check.badIndex("neither of them", Shows::busy, s -> s.insert(4, 6));
        for (int far : FAR_OFF) {
            check.badIndex("place " + far, Shows::busy, s -> s.insert(far, 0));
        }
    }

    @Says(promise = 3, sentence = "Throws IllegalStateException if the programme has 24 places")
    static void twentyFifthPlace(Check check) {
        check.same("the twenty-fourth", Shows.ofPlaces(23).insert(23, 0), 24);
        check.badState("the twenty-fifth behind all", () -> Shows.ofPlaces(24), s -> s.insert(24, 0));
        check.badState("the twenty-fifth ahead of all", () -> Shows.ofPlaces(24), s -> s.insert(0, 0));
    }

    @Says(promise = 3, sentence = "If several exceptions apply, the one that is named first in the throws clause is thrown.")
    static void twentyFifthAtNoPlace(Check check) {
        check.badIndex("place -1", () -> Shows.ofPlaces(24), s -> s.insert(-1, 0));
        check.badIndex("place 25", () -> Shows.ofPlaces(24), s -> s.insert(25, 0));
        check.badIndex("slide 1", () -> Shows.ofPlaces(24), s -> s.insert(0, 1));
    }

    @Says(promise = 3, sentence = "the place of the show goes with its slide")
    static void placeOfTheShowGoesAlong(Check check) {
        int[] due = {2, 2, 1};
        for (int place = 0; place <= 2; place++) {
            SlideBonfire x = Shows.ofPlaces(2);
            x.goOn();
            x.tick(3);
            x.goOn();
            x.insert(place, 0);
            check.same("insert(" + place + ", 0), the show is at place 1", x.showPlace(), due[place]);
        }
        SlideBonfire x = Shows.ofPlaces(2);
        x.insert(0, 0);
        check.badState("before the show began there is none", x::showPlace);
    }

    @Says(promise = 3, sentence = "Returns how many places the programme has then.")
    static void placesThen(Check check) {
        SlideBonfire x = Shows.ofPlaces(0);
        for (int i = 1; i <= 24; i++) {
            check.same("insert", x.insert(0, 0), i);
        }
    }

    @Says(promise = 32, sentence = "The programme has at most 24 places with slides, one slide perhaps at several.")
    static void twentyFourPlaces(Check check) {
        SlideBonfire x = Shows.ofAlike(16, 1, 1, 0);
        for (int i = 0; i < 24; i++) {
            x.insert(i, i % 16);
        }
        for (int i = 0; i < 24; i++) {
            check.same("place " + i, x.slideAt(i), i % 16);
        }
        check.same("one slide at all places", Shows.ofPlaces(24).slideAt(23), 0);
    }

    @Says(promise = 32, sentence = "Returns 0 to 24.")
    static void places(Check check) {
        check.same("none", new SlideBonfire().places(), 0);
        check.same("one", Shows.ofPlaces(1).places(), 1);
        check.same("all", Shows.ofPlaces(24).places(), 24);
    }

    @Says(promise = 4, sentence = "- place: 0 for the first place of the programme")
    static void placesToTakeOut(Check check) {
        SlideBonfire x = Shows.ofHeavySlides(4);
        check.same("the first place", x.takeOut(0), 0);
        check.same("the last place", x.takeOut(2), 3);
        check.same("what is left", x.slideAt(0) * 10 + x.slideAt(1), 12);
        x.takeOut(0);
        check.same("the only place", x.takeOut(0), 2);
        check.same("none is left", x.places(), 0);
    }

    @Says(promise = 4, sentence = "Throws IndexOutOfBoundsException if the programme has no such place")
    static void noPlaceToTakeOut(Check check) {
        check.badIndex("of a new show", SlideBonfire::new, s -> s.takeOut(0));
        check.badIndex("of an empty programme", () -> Shows.ofPlaces(0), s -> s.takeOut(0));
        check.badIndex("place -1", Shows::busy, s -> s.takeOut(-1));
        check.badIndex("place 3 of 3", Shows::busy, s -> s.takeOut(3));
        check.badIndex("place 24 of 24", () -> Shows.ofPlaces(24), s -> s.takeOut(24));
        check.same("place 23 of 24", Shows.ofPlaces(24).takeOut(23), 0);
        for (int far : FAR_OFF) {
            check.badIndex("place " + far, Shows::busy, s -> s.takeOut(far));
        }
    }

    @Says(promise = 4, sentence = "if it is that of the show, the place ahead of it is that of the show then")
    static void placeOfTheShowIsTakenOut(Check check) {
        int[] due = {0, 0, 1};
        for (int place = 0; place <= 2; place++) {
            SlideBonfire x = Shows.ofPlaces(3);
            x.goOn();
            x.tick(3);
            x.goOn();
            x.takeOut(place);
            check.same("takeOut(" + place + "), the show is at place 1", x.showPlace(), due[place]);
            check.same("what is shown stays", x.shown(), 0);
        }
    }

    @Says(promise = 4, sentence = "Returns the slide that was there.")
    static void whatWasThere(Check check) {
        SlideBonfire x = Shows.ofHeavySlides(3);
        check.same("takeOut(1)", x.takeOut(1), 1);
        check.same("takeOut(1) again", x.takeOut(1), 2);
    }

    @Says(promise = 23, sentence = "- slide: the number of the slide")
    static void costOfFirstAndLast(Check check) {
        check.same("the first slide", ofSixteen().costOf(0), 1);
        check.same("the last slide", ofSixteen().costOf(15), 16);
    }

    @Says(promise = 23, sentence = "Throws IndexOutOfBoundsException if there is no such slide")
    static void costOfNone(Check check) {
        check.noSuchSlide((s, slide) -> s.costOf(slide));
    }

    @Says(promise = 24, sentence = "- slide: the number of the slide")
    static void loadOfFirstAndLast(Check check) {
        check.same("the first slide", ofSixteen().loadOf(0), 20);
        check.same("the last slide", ofSixteen().loadOf(15), 5);
    }

    @Says(promise = 24, sentence = "Throws IndexOutOfBoundsException if there is no such slide")
    static void loadOfNone(Check check) {
        check.noSuchSlide((s, slide) -> s.loadOf(slide));
    }

    @Says(promise = 25, sentence = "- slide: the number of the slide")
    static void fadeOfFirstAndLast(Check check) {
        check.same("the first slide", ofSixteen().fadeOf(0), 10);
        check.same("the last slide", ofSixteen().fadeOf(15), 0);
    }

    @Says(promise = 25, sentence = "Throws IndexOutOfBoundsException if there is no such slide")
    static void fadeOfNone(Check check) {
        check.noSuchSlide((s, slide) -> s.fadeOf(slide));
    }

    @Says(promise = 26, sentence = "- slide: the number of the slide")
    static void firstAndLastAreLoaded(Check check) {
        SlideBonfire x = ofSixteen();
        Shows.load(x, 0, 15);
        check.yes("the first slide", x.isLoaded(0));
        check.no("the second slide", x.isLoaded(1));
        check.yes("the last slide", x.isLoaded(15));
    }

    @Says(promise = 26, sentence = "Throws IndexOutOfBoundsException if there is no such slide")
    static void noneIsLoaded(Check check) {
        check.noSuchSlide((s, slide) -> s.isLoaded(slide));
    }

    @Says(promise = 26, sentence = "Returns true if so.")
    static void loadedAtLast(Check check) {
        SlideBonfire x = Shows.ofAlike(1, 1, 20, 0);
        check.no("not yet", x.isLoaded(0));
        x.ask(0);
        x.tick(19);
        check.no("a tick is left", x.isLoaded(0));
        x.tick(1);
        check.yes("no tick is left", x.isLoaded(0));
        x.burn(0);
        check.no("burnt", x.isLoaded(0));
    }

    @Says(promise = 27, sentence = "- slide: the number of the slide")
    static void firstAndLastAreOnShow(Check check) {
        SlideBonfire x = ofSixteen();
        Shows.load(x, 0, 15);
        Shows.programme(x, 15, 0);
        x.goOn();
        x.goOn();
        check.yes("the first slide is shown", x.isOnShow(0));
        check.no("the second slide", x.isOnShow(1));
        check.yes("the last slide fades out", x.isOnShow(15));
    }

    @Says(promise = 27, sentence = "Throws IndexOutOfBoundsException if there is no such slide")
    static void noneIsOnShow(Check check) {
        check.noSuchSlide((s, slide) -> s.isOnShow(slide));
    }

    @Says(promise = 27, sentence = "Returns true if so.")
    static void onShow(Check check) {
        SlideBonfire x = Shows.waiting();
        check.yes("shown", x.isOnShow(0));
        check.yes("fades out", x.isOnShow(1));
        check.no("loaded, but no more", x.isOnShow(2));
        check.no("waited for, but not shown yet", x.isOnShow(3));
        x.tick(x.fadeLeft() - 1);
        check.yes("with a tick left", x.isOnShow(1));
        x.tick(1);
        check.no("with none left", x.isOnShow(1));
        check.yes("shown yet", x.isOnShow(0));
    }

    @Says(promise = 28, sentence = "- slide: the number of the slide")
    static void glowOfFirstAndLast(Check check) {
        SlideBonfire x = ofSixteen();
        Shows.load(x, 0, 15);
        x.burn(0);
        x.tick(1);
        x.burn(15);
        check.same("the first slide", x.glowOf(0), 4);
        check.same("the second slide", x.glowOf(1), 0);
        check.same("the last slide", x.glowOf(15), 5);
    }

    @Says(promise = 28, sentence = "Throws IndexOutOfBoundsException if there is no such slide")
    static void glowOfNone(Check check) {
        check.noSuchSlide((s, slide) -> s.glowOf(slide));
    }

    @Says(promise = 29, sentence = "- slide: the number of the slide")
    static void firstAndLastAreBurnt(Check check) {
        SlideBonfire x = ofSixteen();
        Shows.load(x, 0, 15);
        x.burn(0);
        x.burn(15);
        Shows.load(x, 15);
        x.burn(15);
        check.same("the first slide", x.burntTimes(0), 1);
        check.same("the second slide", x.burntTimes(1), 0);
        check.same("the last slide", x.burntTimes(15), 2);
    }

    @Says(promise = 29, sentence = "Throws IndexOutOfBoundsException if there is no such slide")
    static void noneIsBurnt(Check check) {
        check.noSuchSlide((s, slide) -> s.burntTimes(slide));
    }

    public static void main(String[] args) {
        Boundaries.run(SlideBoundariesTest.class);
    }
}
