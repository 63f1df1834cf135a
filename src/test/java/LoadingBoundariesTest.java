/** Promises 6, 24 and 40 to 45: what is loaded next and for how many ticks, what was asked for, the memory taken. */
public final class LoadingBoundariesTest {

    /** Slides alike, of cost 10 and loaded in 3 ticks, in the programme in turn; so many places are looked ahead. */
    private static SlideBonfire lookingAhead(int slides, int ahead) {
        SlideBonfire x = Shows.ofAlike(slides, 10, 3, 0);
        x.changeAhead(ahead);
        for (int i = 0; i < slides; i++) {
            x.insert(i, i);
        }
        return x;
    }

    @Says(promise = 40, sentence = "One slide is loaded at a time.")
    static void oneAtATime(Check check) {
        SlideBonfire x = Shows.ofAlike(3, 10, 3, 0);
        x.ask(2);
        x.ask(1);
        x.insert(0, 0);
        x.goOn();
        check.same("the first one", x.loading(), 2);
        check.same("of only one the memory is taken", x.takenBySlides(), 10);
        check.same("loads", x.loads(), 1);
        x.tick(2);
        check.same("with a tick left", x.loading(), 2);
        x.tick(1);
        check.same("then the next one", x.loading(), 0);
    }

    @Says(promise = 40, sentence = "Whenever none is being loaded, behind each action and in each tick, the loading of one begins")
    static void behindEachAction(Check check) {
        SlideBonfire x = lookingAhead(2, 1);
        check.same("behind insert", x.loading(), 0);
        x.tick(3);
        check.badState("all looked at are loaded", x::loading);
        x.keep(0);
        x.changeAhead(2);
        check.same("behind changeAhead", x.loading(), 1);
        x.goBack(0);
        x.takeOut(0);
        check.same("behind takeOut", x.loading(), 1);
        x.goBack(0);
        x.goOn();
        check.same("behind goOn", x.loading(), 1);
        x.goBack(0);
        x.ask(1);
        check.same("behind ask", x.loading(), 1);
        x.goBack(0);
        x.burn(0);
        check.same("behind burn", x.loading(), 0);
        x = Shows.ofAlike(4, 50, 1, 0);
        Shows.load(x, 0, 1, 2);
        x.insert(0, 3);
        check.badState("no room", x::loading);
        x.changeMemory(200);
        check.same("behind changeMemory", x.loading(), 3);
        x = Shows.ofAlike(2, 10, 3, 0);
        x.ask(1);
        x.ask(0);
        x.tick(3);
        check.same("in the tick in which another one ends", x.loading(), 0);
        check.same("with all of its ticks", x.loadLeft(), 3);
    }

    @Says(promise = 40, sentence = "of the one that is waited for, if it is not loaded; otherwise of the first one that was asked "
        + "for (it is asked for no longer); otherwise of the first slide")
    static void whichOne(Check check) {
        SlideBonfire x = Shows.ofAlike(5, 10, 3, 0);
        x.ask(4);
        Shows.programme(x, 0, 1);
        x.ask(3);
        x.ask(2);
        x.goOn();
        int[] due = {4, 0, 3, 2, 1};
        for (int slide : due) {
            check.same("loading", x.loading(), slide);
            x.tick(3);
        }
        check.badState("all are loaded", x::loading);
        check.same("none is asked for", x.asked(), 0);
    }

    @Says(promise = 10, sentence = "of as many next places of the programme as are looked ahead (0 to 4, at first 1), that is not "
        + "loaded")
    static void asManyNextPlaces(Check check) {
        SlideBonfire first = Shows.ofAlike(3, 10, 3, 0);
        Shows.programme(first, 0, 1, 2);
        first.tick(100);
        check.same("at first one", first.loads(), 1);
        for (int ahead = 0; ahead <= 4; ahead++) {
            SlideBonfire x = lookingAhead(6, ahead);
            x.tick(100);
            check.same("loads, looking ahead " + ahead, x.loads(), ahead);
            for (int i = 0; i < 6; i++) {
                check.same("slide " + i + ", looking ahead " + ahead, x.isLoaded(i) ? 1 : 0, i < ahead ? 1 : 0);
            }
        }
    }

    @Says(promise = 10, sentence = "of as many next places of the programme as are looked ahead (0 to 4, at first 1), that is not "
        + "loaded")
    static void nextPlacesRoundAndRound(Check check) {
        SlideBonfire x = lookingAhead(5, 0);
        for (int i = 0; i < 4; i++) {
            x.goOn();
            x.tick(3);
        }
        x.burn(0);
        x.burn(1);
        x.burn(2);
        x.changeAhead(1);
        check.same("the last place", x.loading(), 4);
        x.tick(3);
        check.badState("no more", x::loading);
        x.changeAhead(2);
        check.same("behind it the first place", x.loading(), 0);
        x.tick(3);
        check.badState("no more again", x::loading);
        x.changeAhead(4);
        check.same("then the second place", x.loading(), 1);
        x.tick(3);
        check.same("then the third place", x.loading(), 2);
        x = Shows.ofAlike(1, 10, 3, 0);
        x.changeAhead(4);
        x.insert(0, 0);
        check.same("more places ahead than there are", x.loading(), 0);
        x.tick(3);
        check.badState("loaded but once", x::loading);
    }

    @Says(promise = 10, sentence = "but only if there is room for it without burning (otherwise none is loaded)")
    static void onlyIfThereIsRoom(Check check) {
        int[] costs = {9, 10, 11};
        for (int cost : costs) {
            SlideBonfire x = Shows.with(Shows.slide(50, 1, 0), Shows.slide(50, 1, 0), Shows.slide(40, 1, 0),
                Shows.slide(cost, 1, 0), Shows.slide(1, 1, 0));
            Shows.load(x, 0, 1, 2);
            Shows.programme(x, 3, 4);
            x.changeAhead(2);
            x.tick(1);
            boolean room = cost <= 10;
            check.same("cost " + cost, x.isLoaded(3) ? 1 : 0, room ? 1 : 0);
            check.same("cost " + cost + ", nothing is burnt", x.burnings(), 0);
            check.same("cost " + cost + ", the next one only behind it", x.loads(), cost == 9 ? 5 : room ? 4 : 3);
        }
    }

    @Says(promise = 24, sentence = "Loading takes the ticks of the slide, or half of them, rounded up, if its ember glows as the "
        + "loading begins (the ember is gone then).")
    static void halfRoundedUp(Check check) {
        int[] loads = {1, 2, 3, 4, 19, 20};
        int[] halves = {1, 1, 2, 2, 10, 10};
        for (int i = 0; i < loads.length; i++) {
            SlideBonfire x = Shows.ofAlike(1, 10, loads[i], 0);
            x.ask(0);
            check.same("load " + loads[i], x.loadLeft(), loads[i]);
            x.tick(loads[i]);
            x.burn(0);
            check.same("load " + loads[i] + ", half", x.loadOf(0), halves[i]);
            x.ask(0);
            check.same("load " + loads[i] + ", half of it is left", x.loadLeft(), halves[i]);
            check.same("load " + loads[i] + ", the ember is gone", x.glowOf(0), 0);
            check.same("load " + loads[i] + ", from the beginning", x.loadOf(0), loads[i]);
            x.tick(halves[i]);
            check.yes("load " + loads[i] + ", loaded", x.isLoaded(0));
        }
    }

    @Says(promise = 24, sentence = "Returns the ticks: half of them, rounded up, while its ember glows.")
    static void whileItGlows(Check check) {
        for (int ticks = 4; ticks <= 5; ticks++) {
            SlideBonfire x = Shows.ofAlike(1, 10, 7, 0);
            Shows.load(x, 0);
            x.burn(0);
            x.tick(ticks);
            check.same("loadOf(0) behind " + ticks + " ticks", x.loadOf(0), ticks == 4 ? 4 : 7);
            x.ask(0);
            check.same("loadLeft() behind " + ticks + " ticks", x.loadLeft(), ticks == 4 ? 4 : 7);
            check.same("warmLoads() behind " + ticks + " ticks", x.warmLoads(), ticks == 4 ? 1 : 0);
        }
    }

    @Says(promise = 42, sentence = "A slide that is waited for is not asked for any more.")
    static void waitedForIsNotAskedFor(Check check) {
        SlideBonfire x = Shows.ofAlike(4, 10, 3, 0);
        x.ask(0);
        x.ask(1);
        x.ask(2);
        x.ask(3);
        x.insert(0, 2);
        x.goOn();
        check.same("one less is asked for", x.asked(), 2);
        check.same("the one ahead of it", x.askedAt(0), 1);
        check.same("the one behind it", x.askedAt(1), 3);
        x.tick(12);
        check.same("it is loaded once", x.loads(), 4);
    }

    @Says(promise = 42, sentence = "A slide that is waited for is not asked for any more.")
    static void waitedForByThePace(Check check) {
        SlideBonfire x = Shows.ofAlike(3, 10, 9, 0);
        x.changeAhead(0);
        Shows.load(x, 0);
        Shows.programme(x, 0, 1);
        x.changePace(1);
        x.goOn();
        x.ask(2);
        x.ask(1);
        x.tick(1);
        check.same("it is waited for", x.awaited(), 1);
        check.same("it is not asked for any more", x.asked(), 0);
    }

    @Says(promise = 41, sentence = "If it is being loaded already, that goes on.")
    static void itsLoadingGoesOn(Check check) {
        SlideBonfire x = Shows.ofAlike(1, 10, 20, 0);
        x.insert(0, 0);
        x.tick(19);
        x.goOn();
        check.same("it is waited for", x.awaited(), 0);
        check.same("a tick is left", x.loadLeft(), 1);
        check.same("loaded once", x.loads(), 1);
        check.same("shown with that tick", x.tick(1), 1);
    }

    @Says(promise = 6, sentence = "- slide: the number of the slide")
    static void slidesToAskFor(Check check) {
        SlideBonfire x = Shows.ofAlike(16, 1, 1, 0);
        check.same("the last slide, its loading begins", x.ask(15), 0);
        check.same("the first slide", x.ask(0), 1);
    }

    @Says(promise = 6, sentence = "Returns how many slides are asked for then, and are not being loaded yet.")
    static void asManyAsMayBeAskedFor(Check check) {
        SlideBonfire x = Shows.ofAlike(16, 1, 20, 0);
        for (int i = 0; i < 16; i++) {
            check.same("slide " + i, x.ask(i), i);
        }
        check.same("asked for", x.asked(), 15);
        check.same("the first one", x.askedAt(0), 1);
        check.same("the last one", x.askedAt(14), 15);
        check.badIndex("behind the last one", () -> x.askedAt(15));
    }

    @Says(promise = 6, sentence = "Throws IndexOutOfBoundsException if there is no such slide")
    static void noneToAskFor(Check check) {
        check.noSuchSlide((s, slide) -> s.ask(slide));
    }

    @Says(promise = 6, sentence = "Throws IllegalStateException if it is loaded, is being loaded, is waited for, or was asked for")
    static void notToAskFor(Check check) {
        check.badState("shown", Shows::busy, s -> s.ask(0));
        check.badState("fades out", Shows::busy, s -> s.ask(1));
        check.badState("loaded", Shows::busy, s -> s.ask(2));
        check.badState("being loaded", Shows::busy, s -> s.ask(3));
        check.badState("was asked for", Shows::busy, s -> s.ask(4));
        check.same("burnt", Shows.busy().ask(5), 2);
        check.badState("being loaded and waited for", Shows::waiting, s -> s.ask(3));
        check.badState("waited for behind another loading", () -> {
            SlideBonfire x = Shows.ofAlike(2, 10, 5, 0);
            x.ask(0);
            x.insert(0, 1);
            x.goOn();
            return x;
        }, s -> s.ask(1));
    }

    @Says(promise = 40, sentence = "Throws IllegalStateException if none is")
    static void noneIsBeingLoaded(Check check) {
        check.badState("of a new show", SlideBonfire::new, s -> s.loading());
        check.badState("with a slide", () -> Shows.ofAlike(1, 1, 1, 0), s -> s.loading());
        SlideBonfire x = Shows.ofAlike(1, 1, 2, 0);
        x.ask(0);
        x.tick(1);
        check.same("with a tick left", x.loading(), 0);
        x.tick(1);
        check.badState("with none left", x::loading);
    }

    @Says(promise = 41, sentence = "Returns the ticks, 0 if none goes on.")
    static void loadLeft(Check check) {
        check.same("of a new show", new SlideBonfire().loadLeft(), 0);
        SlideBonfire x = Shows.ofAlike(1, 1, 20, 0);
        x.ask(0);
        for (int left = 20; left >= 0; left--) {
            check.same("left", x.loadLeft(), left);
            x.tick(1);
        }
        check.same("never below 0", x.loadLeft(), 0);
    }

    @Says(promise = 42, sentence = "Returns how many slides are asked for, and are not being loaded yet.")
    static void asked(Check check) {
        check.same("of a new show", new SlideBonfire().asked(), 0);
        SlideBonfire x = Shows.ofAlike(3, 1, 2, 0);
        x.ask(0);
        check.same("being loaded", x.asked(), 0);
        x.ask(1);
        x.ask(2);
        check.same("two more", x.asked(), 2);
        x.tick(1);
        check.same("with a tick of the first one left", x.asked(), 2);
        x.tick(1);
        check.same("with none left", x.asked(), 1);
        x.tick(2);
        check.same("and so on", x.asked(), 0);
    }

    @Says(promise = 43, sentence = "- place: 0 for the one that is loaded first")
    static void firstOfTheAsked(Check check) {
        SlideBonfire x = Shows.ofAlike(4, 1, 2, 0);
        x.ask(0);
        x.ask(3);
        x.ask(1);
        x.ask(2);
        check.same("the first one", x.askedAt(0), 3);
        check.same("the last one", x.askedAt(2), 2);
        x.tick(2);
        check.same("it is loaded first", x.loading(), 3);
        check.same("then the next one", x.askedAt(0), 1);
    }

    @Says(promise = 43, sentence = "Throws IndexOutOfBoundsException if not so many are asked for, or place is below 0")
    static void noneIsAskedForThere(Check check) {
        check.badIndex("of a new show", SlideBonfire::new, s -> s.askedAt(0));
        check.badIndex("of a new show, below 0", SlideBonfire::new, s -> s.askedAt(-1));
        for (int place : new int[] {-1, 1, 16, Integer.MIN_VALUE, Integer.MAX_VALUE}) {
            check.badIndex("place " + place + " of 1", Shows::busy, s -> s.askedAt(place));
        }
        check.same("place 0 of 1", Shows.busy().askedAt(0), 4);
    }

    @Says(promise = 44, sentence = "Returns the costs of all that are loaded or being loaded, together.")
    static void takenBySlides(Check check) {
        check.same("of a new show", new SlideBonfire().takenBySlides(), 0);
        check.same("not of what is only asked for", Shows.busy().takenBySlides(), 100);
        SlideBonfire x = Shows.ofAlike(16, 25, 1, 0);
        x.changeMemory(400);
        for (int i = 0; i < 16; i++) {
            x.ask(i);
        }
        x.tick(16);
        check.same("all slides, all of the memory", x.takenBySlides(), 400);
        check.same("none is burnt", x.burnings(), 0);
    }

    @Says(promise = 45, sentence = "Returns the memory, the same as by takenBySlides().")
    static void takenByAccount(Check check) {
        check.same("of a new show", new SlideBonfire().takenByAccount(), 0);
        SlideBonfire x = Shows.ofAlike(8, 50, 2, 0);
        x.changeMemory(400);
        for (int i = 0; i < 8; i++) {
            x.ask(i);
            check.same("asked for", x.takenByAccount(), x.takenBySlides());
            x.tick(1);
            check.same("a tick", x.takenByAccount(), x.takenBySlides());
        }
        x.tick(8);
        check.same("all", x.takenByAccount(), 400);
        x.burn(3);
        check.same("burnt", x.takenByAccount(), x.takenBySlides());
        x.changeMemory(150);
        check.same("less memory", x.takenByAccount(), 150);
        x.ask(0);
        check.same("one in place of another one", x.takenByAccount(), x.takenBySlides());
        x.undo();
        x.undo();
        check.same("undone", x.takenByAccount(), 350);
    }

    public static void main(String[] args) {
        Boundaries.run(LoadingBoundariesTest.class);
    }
}
