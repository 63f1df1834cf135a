/** Promises 7, 9, 28 to 31 and 61: when slides are burnt and which ones, and how long their embers glow. */
public final class BurningBoundariesTest {

    /** All cost 50: slide 0 fades out, 1 is shown, 2 is loaded, 3 is not; the memory is full. */
    private static SlideBonfire withTwoOnShow() {
        SlideBonfire x = Shows.ofAlike(4, 50, 1, 9);
        x.changeAhead(0);
        Shows.load(x, 0, 1);
        Shows.programme(x, 0, 1, 2);
        x.goOn();
        x.goOn();
        Shows.load(x, 2);
        return x;
    }

    /** Slides of these costs, loaded one after the other, and one more that is not loaded. */
    private static SlideBonfire loadedAll(int... costs) {
        SlideBonfire x = new SlideBonfire();
        for (int cost : costs) {
            x.addSlide(cost, 1, 0);
        }
        for (int i = 0; i + 1 < costs.length; i++) {
            Shows.load(x, i);
        }
        return x;
    }

    private static String loaded(SlideBonfire x) {
        StringBuilder all = new StringBuilder();
        for (int i = 0; i < x.slides(); i++) {
            if (x.isLoaded(i)) {
                all.append(i).append(' ');
            }
        }
        return all.toString().trim();
    }

    @Says(promise = 9, sentence = "The slide on show is never burnt.")
    static void neverOnShow(Check check) {
        for (int order = 0; order < 3; order++) {
            SlideBonfire x = withTwoOnShow();
            x.changeOrder(order);
            x.ask(3);
            check.sameText("by loading, order " + order, loaded(x), "0 1");
            x = withTwoOnShow();
            x.changeMemory(200);
            x.ask(3);
            x.changeOrder(order);
            x.changeMemory(150);
            check.sameText("by less memory, order " + order, loaded(x), "0 1");
            check.same("one is being loaded yet, order " + order, x.loading(), 3);
        }
    }

    @Says(promise = 44, sentence = "A slide that is loaded, or being loaded, takes as much of it as its cost.")
    static void takes(Check check) {
        SlideBonfire x = Shows.with(Shows.slide(1, 2, 0), Shows.slide(50, 2, 0));
        check.same("none", x.takenBySlides(), 0);
        x.ask(0);
        check.same("the least, being loaded", x.takenBySlides(), 1);
        x.tick(1);
        check.same("with a tick left", x.takenBySlides(), 1);
        x.tick(1);
        check.same("loaded", x.takenBySlides(), 1);
        x.ask(1);
        check.same("and the most", x.takenBySlides(), 51);
        x.burn(0);
        check.same("burnt", x.takenBySlides(), 50);
    }

    @Says(promise = 61, sentence = "When a slide is to be loaded, and there is not room enough, slides are burnt, "
        + "one by one, until there is")
    static void untilThereIsRoom(Check check) {
        int[] costs = {10, 20, 30, 40, 49, 1};
        SlideBonfire full = loadedAll(costs);
        check.same("149 is taken", full.takenByAccount(), 149);
        full.ask(5);
        check.same("just room enough: none is burnt", full.burnings(), 0);
        check.same("all is taken", full.takenByAccount(), 150);
        int[] lastCosts = {2, 11, 12, 31, 32, 50};
        int[] due = {1, 1, 2, 2, 3, 3};
        for (int i = 0; i < lastCosts.length; i++) {
            costs[5] = lastCosts[i];
            SlideBonfire x = loadedAll(costs);
            x.ask(5);
            check.same("cost " + lastCosts[i], x.burnings(), due[i]);
        }
    }

    @Says(promise = 31, sentence = "slides that are loaded and not on show, in the order of burning")
    static void loadedAndNotOnShow(Check check) {
        SlideBonfire x = withTwoOnShow();
        x.changeMemory(250);
        x.ask(3);
        check.same("only one stands in the order", x.burnPlace(2), 0);
        x.tick(1);
        check.same("and then another one, loaded by now", x.burnPlace(3), 1);
        x.tick(x.fadeLeft());
        check.same("the one that has faded out was used before both", x.burnPlace(0), 0);
        check.same("they go behind it", x.burnPlace(2) * 10 + x.burnPlace(3), 12);
        check.badState("not the one that is shown", () -> x.burnPlace(1));
    }

    /** Slide 0 fades out, 1 is shown, 2 is being loaded: 150 of the memory; the others, of these costs, are loaded. */
    private static SlideBonfire withAThirdBeingLoaded(int... costs) {
        SlideBonfire x = Shows.with(Shows.slide(50, 1, 10), Shows.slide(50, 1, 10), Shows.slide(50, 20, 0));
        x.changeMemory(400);
        x.changeAhead(0);
        Shows.programme(x, 0, 1);
        for (int cost : costs) {
            x.addSlide(cost, 1, 0);
        }
        for (int i = x.slides() - 1; i > 2; i--) {
            Shows.load(x, i);
        }
        Shows.load(x, 0, 1);
        x.goOn();
        x.goOn();
        x.ask(2);
        return x;
    }

    @Says(promise = 9, sentence = "slides that are loaded and not on show, in the order of burning")
    static void burntInThatOrder(Check check) {
        for (int order = 0; order < 3; order++) {
            SlideBonfire x = withAThirdBeingLoaded(48, 50, 49, 50, 49);
            Shows.programme(x, 7, 3, 5);
            x.changeOrder(order);
            int[] line = new int[5];
            for (int slide = 3; slide < 8; slide++) {
                line[x.burnPlace(slide)] = slide;
            }
            for (int i = 0; i < 5; i++) {
                x.changeMemory(x.takenBySlides() - 1);
                check.same("order " + order + ", one by one", x.burnings(), i + 1);
                check.no("order " + order + ", the next one in the order", x.isLoaded(line[i]));
            }
            check.sameText("order " + order + ", then there is room", loaded(x), "0 1");
            check.same("order " + order + ", for three slides", x.takenBySlides(), 150);
        }
    }

    @Says(promise = 31, sentence = "with the order 0 (at first) the one that was used the longest ago")
    static void longestAgo(Check check) {
        SlideBonfire x = Shows.ofAlike(4, 50, 1, 0);
        check.same("at first", x.order(), 0);
        Shows.load(x, 1, 2, 0);
        check.same("the first one that was loaded", x.burnPlace(1), 0);
        check.same("then the second one", x.burnPlace(2), 1);
        check.same("then the last one", x.burnPlace(0), 2);
        x.ask(3);
        check.sameText("the first one is burnt", loaded(x), "0 2");
    }

    @Says(promise = 31, sentence = "a slide is used as its loading ends, and as it is shown")
    static void usedAsLoadingEnds(Check check) {
        SlideBonfire x = Shows.with(Shows.slide(10, 1, 0), Shows.slide(10, 1, 0), Shows.slide(10, 5, 0));
        x.changeAhead(0);
        Shows.load(x, 0, 1);
        Shows.programme(x, 0, 1);
        x.ask(2);
        x.goOn();
        x.goOn();
        x.tick(5);
        check.same("shown while the other one was being loaded", x.burnPlace(0), 0);
        check.same("its loading ended behind that", x.burnPlace(2), 1);
    }

    @Says(promise = 31, sentence = "and as it is shown; no two are used at the same moment")
    static void usedAsShown(Check check) {
        SlideBonfire x = Shows.ofAlike(3, 10, 1, 0);
        x.changeAhead(0);
        Shows.load(x, 0, 1, 2);
        Shows.programme(x, 2, 1, 0);
        x.goOn();
        x.goOn();
        x.goOn();
        check.same("no tick between: the one that was shown first", x.burnPlace(2), 0);
        check.same("then the one that was shown behind it", x.burnPlace(1), 1);
        x.goOn();
        check.same("shown again, and the first one to burn is the next one", x.burnPlace(1), 0);
        check.same("then the third one", x.burnPlace(0), 1);
    }

    @Says(promise = 31, sentence = "with 1 the one with the greatest cost")
    static void greatestCost(Check check) {
        SlideBonfire x = loadedAll(30, 50, 1, 49, 40);
        x.changeOrder(1);
        int[] due = {1, 3, 0, 2};
        for (int i = 0; i < due.length; i++) {
            check.same("slide " + due[i], x.burnPlace(due[i]), i);
        }
        x.ask(4);
        check.sameText("the first one is burnt", loaded(x), "0 2 3");
    }

    @Says(promise = 31, sentence = "with 2 the one that is used next the latest in the programme")
    static void nextTheLatest(Check check) {
        SlideBonfire x = loadedAll(40, 40, 40, 50);
        Shows.programme(x, 1, 2, 0, 1);
        x.changeOrder(2);
        check.same("0 is used next at the third place", x.burnPlace(0), 0);
        check.same("2 at the second one", x.burnPlace(2), 1);
        check.same("1 at the first one, though also at the fourth one", x.burnPlace(1), 2);
        x.ask(3);
        check.sameText("the first one is burnt", loaded(x), "1 2");
    }

    @Says(promise = 31, sentence = "with 2 the one that is used next the latest in the programme")
    static void placeOfTheShowIsTheLatest(Check check) {
        SlideBonfire x = Shows.ofAlike(3, 10, 1, 0);
        Shows.load(x, 0, 1, 2);
        Shows.programme(x, 0, 1, 2);
        x.changeOrder(2);
        x.goOn();
        x.goOn();
        x.takeOut(1);
        check.same("slide 1 is shown, but 0 is at the place of the show", x.showPlace(), 0);
        check.same("the place of the show comes next the latest", x.burnPlace(0), 0);
        check.same("the next place comes first", x.burnPlace(2), 1);
    }

    @Says(promise = 31, sentence = "one that is not in it being later than all")
    static void notInTheProgramme(Check check) {
        SlideBonfire x = Shows.ofAlike(3, 50, 1, 0);
        Shows.load(x, 2, 1, 0);
        for (int i = 0; i < 23; i++) {
            x.insert(i, 2);
        }
        x.insert(23, 0);
        x.changeOrder(2);
        check.same("0 is used next as far off as may be", x.nextUse(0), 24);
        check.same("1 is later", x.burnPlace(1), 0);
        check.same("then 0", x.burnPlace(0), 1);
        check.same("then 2", x.burnPlace(2), 2);
    }

    @Says(promise = 31, sentence = "of several with the same cost or use the lowest number")
    static void lowestNumber(Check check) {
        for (int order = 1; order <= 2; order++) {
            SlideBonfire x = Shows.ofAlike(4, 50, 1, 0);
            Shows.load(x, 2, 0, 1);
            x.changeOrder(order);
            for (int i = 0; i < 3; i++) {
                check.same("order " + order + ", slide " + i, x.burnPlace(i), i);
            }
            x.ask(3);
            check.sameText("the lowest one is burnt", loaded(x), "1 2");
        }
    }

    @Says(promise = 31, sentence = "Returns 0 for the one that is burnt first.")
    static void burnPlaces(Check check) {
        SlideBonfire x = Shows.ofAlike(16, 9, 1, 0);
        for (int i = 0; i < 16; i++) {
            Shows.load(x, i);
        }
        for (int i = 0; i < 16; i++) {
            check.same("slide " + i, x.burnPlace(i), i);
        }
    }

    @Says(promise = 31, sentence = "- slide: the number of the slide")
    static void burnPlaceOfFirstAndLast(Check check) {
        SlideBonfire x = Shows.ofAlike(16, 1, 1, 0);
        Shows.load(x, 15, 0);
        check.same("the first slide", x.burnPlace(0), 1);
        check.same("the last slide", x.burnPlace(15), 0);
    }

    @Says(promise = 31, sentence = "Throws IndexOutOfBoundsException if there is no such slide")
    static void burnPlaceOfNone(Check check) {
        check.noSuchSlide((s, slide) -> s.burnPlace(slide));
    }

    @Says(promise = 31, sentence = "Throws IllegalStateException if it is not loaded, or is on show")
    static void noBurnPlace(Check check) {
        check.badState("shown", Shows::busy, s -> s.burnPlace(0));
        check.badState("fades out", Shows::busy, s -> s.burnPlace(1));
        check.same("loaded", Shows.busy().burnPlace(2), 0);
        check.badState("being loaded", Shows::busy, s -> s.burnPlace(3));
        check.badState("asked for", Shows::busy, s -> s.burnPlace(4));
        check.badState("burnt", Shows::busy, s -> s.burnPlace(5));
        check.badState("never loaded", () -> Shows.ofAlike(16, 1, 1, 0), s -> s.burnPlace(15));
    }

    @Says(promise = 12, sentence = "leaves an ember that glows for as many ticks as told, 0 to 20, at first 5")
    static void embers(Check check) {
        for (int glow : new int[] {-1, 0, 1, 20}) {
            SlideBonfire x = Shows.ofAlike(1, 10, 9, 0);
            if (glow >= 0) {
                x.changeGlow(glow);
            }
            int due = glow >= 0 ? glow : 5;
            Shows.load(x, 0);
            x.burn(0);
            for (int left = due; left >= 0; left--) {
                check.same("glow " + due, x.glowOf(0), left);
                check.same("glow " + due + ", load", x.loadOf(0), left > 0 ? 5 : 9);
                x.tick(1);
            }
            check.same("never below 0", x.glowOf(0), 0);
        }
    }

    @Says(promise = 28, sentence = "Returns the ticks, 0 if it does not glow.")
    static void noEmber(Check check) {
        SlideBonfire x = Shows.ofAlike(2, 10, 2, 0);
        check.same("never loaded", x.glowOf(0), 0);
        Shows.load(x, 0);
        check.same("loaded", x.glowOf(0), 0);
        x.burn(0);
        check.same("burnt", x.glowOf(0), 5);
        check.same("the other one", x.glowOf(1), 0);
        x.ask(0);
        check.same("being loaded again", x.glowOf(0), 0);
    }

    @Says(promise = 9, sentence = "(As costs are at most 50, there is always room for three slides.)")
    static void threeSlides(Check check) {
        SlideBonfire x = withTwoOnShow();
        check.same("all is taken", x.takenByAccount(), x.memory());
        check.same("asked for", x.ask(3), 0);
        check.same("the third one is loaded in place of another one", x.loading(), 3);
        check.same("two are on show", x.takenByAccount(), 150);
    }

    @Says(promise = 7, sentence = "- slide: the number of the slide")
    static void slidesToBurn(Check check) {
        SlideBonfire x = Shows.ofAlike(16, 1, 1, 0);
        Shows.load(x, 0, 15);
        check.same("the first slide", x.burn(0), 1);
        check.same("the last slide", x.burn(15), 1);
        check.same("burnt times", x.burntTimes(15), 1);
    }

    @Says(promise = 7, sentence = "Throws IndexOutOfBoundsException if there is no such slide")
    static void noneToBurn(Check check) {
        check.noSuchSlide((s, slide) -> s.burn(slide));
    }

    @Says(promise = 7, sentence = "Throws IllegalStateException if it is not loaded, or is on show")
    static void notToBurn(Check check) {
        check.badState("shown", Shows::busy, s -> s.burn(0));
        check.badState("fades out", Shows::busy, s -> s.burn(1));
        check.same("loaded", Shows.busy().burn(2), 20);
        check.badState("being loaded", Shows::busy, s -> s.burn(3));
        check.badState("asked for", Shows::busy, s -> s.burn(4));
        check.badState("burnt", Shows::busy, s -> s.burn(5));
        check.badState("waited for", Shows::waiting, s -> s.burn(3));
        check.badState("never loaded", () -> Shows.ofAlike(16, 1, 1, 0), s -> s.burn(15));
    }

    @Says(promise = 7, sentence = "On show are the slide that is shown, and the one that fades out.")
    static void burnBehindFading(Check check) {
        SlideBonfire x = Shows.busy();
        x.tick(x.fadeLeft() - 1);
        check.badState("it fades out for a tick more", () -> x.burn(1));
        x.tick(1);
        check.same("it has faded out", x.burn(1), 30);
    }

    @Says(promise = 7, sentence = "Returns the memory that becomes free.")
    static void memoryThatBecomesFree(Check check) {
        SlideBonfire x = Shows.with(Shows.slide(1, 1, 0), Shows.slide(50, 1, 0));
        Shows.load(x, 0, 1);
        check.same("the least", x.burn(0), 1);
        check.same("what is taken", x.takenBySlides(), 50);
        check.same("the most", x.burn(1), 50);
        check.same("nothing is taken", x.takenBySlides(), 0);
        check.same("by account", x.takenByAccount(), 0);
    }

    @Says(promise = 9, sentence = "slides are burnt, as long as those that are loaded or being loaded take more")
    static void asLongAsTheyTakeMore(Check check) {
        int[] memories = {190, 189, 180, 179, 160, 159, 150};
        int[] due = {0, 1, 1, 2, 2, 3, 3};
        for (int i = 0; i < memories.length; i++) {
            SlideBonfire x = new SlideBonfire();
            x.changeMemory(400);
            for (int cost : new int[] {10, 20, 30, 40, 50, 40}) {
                x.addSlide(cost, 1, 0);
            }
            Shows.load(x, 0, 1, 2, 3, 4);
            x.ask(5);
            check.same("190 is taken, with the one that is being loaded", x.takenBySlides(), 190);
            x.changeMemory(memories[i]);
            check.same("memory " + memories[i], x.burnings(), due[i]);
        }
    }

    @Says(promise = 29, sentence = "Returns how often.")
    static void burntTimes(Check check) {
        SlideBonfire x = Shows.ofAlike(5, 50, 1, 0);
        check.same("never", x.burntTimes(0), 0);
        Shows.load(x, 0, 1, 2, 3);
        check.same("by a loading", x.burntTimes(0), 1);
        x.burn(1);
        check.same("by burn", x.burntTimes(1), 1);
        x.changeMemory(200);
        Shows.load(x, 0, 1);
        x.changeMemory(150);
        check.same("by less memory", x.burntTimes(2), 1);
        check.same("not burnt for it", x.burntTimes(3), 0);
        check.same("no more than before", x.burntTimes(0), 1);
        x.burn(0);
        check.same("once more", x.burntTimes(0), 2);
        check.same("all together", x.burnings(), 4);
    }

    @Says(promise = 61, sentence = "Returns how often.")
    static void burnings(Check check) {
        SlideBonfire x = Shows.ofAlike(4, 50, 1, 0);
        Shows.load(x, 0, 1, 2);
        check.same("the memory is just full", x.burnings(), 0);
        x.ask(3);
        check.same("by a loading", x.burnings(), 1);
        x.burn(1);
        check.same("by burn", x.burnings(), 2);
    }

    public static void main(String[] args) {
        Boundaries.run(BurningBoundariesTest.class);
    }
}
