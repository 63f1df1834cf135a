/** Promises 22 to 31: slides as they are. */
public final class SlidesAsTheyAreTest {
    private static final Check check = new Check();

    private static void wrongSlides(int slide) {
        SlideBonfire x = Shows.ofFour();
        check.badIndex("23", () -> x.costOf(slide));
        check.badIndex("24", () -> x.loadOf(slide));
        check.badIndex("25", () -> x.fadeOf(slide));
        check.badIndex("26", () -> x.isLoaded(slide));
        check.badIndex("27", () -> x.isOnShow(slide));
        check.badIndex("28", () -> x.glowOf(slide));
        check.badIndex("29", () -> x.burntTimes(slide));
        check.badIndex("30", () -> x.nextUse(slide));
        check.badIndex("31", () -> x.burnPlace(slide));
        check.badIndex("53", () -> x.burningsFor(slide));
    }

    private static void plain() {
        SlideBonfire x = Shows.ofFour();
        check.same("22 slides", x.slides(), 4);
        check.same("23 cost", x.costOf(3), 40);
        check.same("24 load", x.loadOf(3), 20);
        check.same("25 fade", x.fadeOf(3), 2);
        check.no("26 being loaded", x.isLoaded(0));
        x.tick(5);
        check.yes("26 loaded", x.isLoaded(0));
        check.no("27 not on show", x.isOnShow(0));
        x.goOn();
        check.yes("27 on show", x.isOnShow(0));
        check.no("27 another one", x.isOnShow(1));
    }

    private static void embers() {
        SlideBonfire x = Shows.with(Shows.slide(10, 7, 0), Shows.slide(10, 1, 0));
        x.changeGlow(3);
        Shows.load(x, 0, 1);
        x.burn(0);
        x.burn(1);
        check.same("24 half of the ticks, rounded up", x.loadOf(0), 4);
        check.same("24 half of one", x.loadOf(1), 1);
        check.same("28 glows", x.glowOf(0), 3);
        x.tick(2);
        check.same("28 a tick less with each tick", x.glowOf(0), 1);
        check.same("24 glows yet", x.loadOf(0), 4);
        x.tick(1);
        check.same("28 glows no more", x.glowOf(0), 0);
        check.same("24 all of the ticks", x.loadOf(0), 7);
        x.tick(1);
        check.same("28 not below 0", x.glowOf(0), 0);
        check.same("29 burnt times", x.burntTimes(0), 1);
        Shows.load(x, 0);
        x.burn(0);
        check.same("29 burnt times", x.burntTimes(0), 2);
        check.same("29 of another one", x.burntTimes(1), 1);
        x.ask(0);
        check.same("28 the ember is gone as the loading begins", x.glowOf(0), 0);
        check.same("41 half of the ticks", x.loadLeft(), 4);
        check.same("24 from the beginning, all of them", x.loadOf(0), 7);
        check.same("60 a warm load", x.warmLoads(), 1);
    }

    private static void nextUse() {
        SlideBonfire x = Shows.ofHeavySlides(3);
        x.addSlide(10, 1, 0);
        check.badState("30 not in the programme", () -> x.nextUse(3));
        check.same("30 the first place is the next one", x.nextUse(0), 1);
        check.same("30 the last one", x.nextUse(2), 3);
        x.goOn();
        check.same("30 round and round", x.nextUse(0), 3);
        check.same("30 the next one", x.nextUse(1), 1);
        x.insert(2, 0);
        check.same("30 the nearer one of two places", x.nextUse(0), 2);
    }

    private static void burnPlace() {
        SlideBonfire x = Shows.ofHeavySlides(3);
        check.badState("31 not loaded", () -> x.burnPlace(0));
        x.ask(0);
        check.badState("31 being loaded", () -> x.burnPlace(0));
        x.tick(1);
        check.same("31 the only one", x.burnPlace(0), 0);
        x.goOn();
        check.badState("31 shown", () -> x.burnPlace(0));
        x.changeOrder(2);
        Shows.load(x, 1, 2);
        check.same("31 used later", x.burnPlace(2), 0);
        check.same("31 used next", x.burnPlace(1), 1);
        x.takeOut(1);
        check.same("31 not in the programme is later than all", x.burnPlace(1), 0);
        x.takeOut(1);
        check.same("31 of several the lowest number", x.burnPlace(1), 0);
        check.same("31 then the next one", x.burnPlace(2), 1);
        x.changeOrder(1);
        check.same("31 of the same cost the lowest number", x.burnPlace(1), 0);
    }

    private static void burnPlaceByAllPlaces() {
        SlideBonfire x = Shows.ofHeavySlides(1);
        x.addSlide(50, 1, 0);
        x.addSlide(50, 1, 0);
        while (x.places() < 23) {
            x.insert(0, 0);
        }
        x.insert(23, 1);
        Shows.load(x, 0, 1, 2);
        x.changeOrder(2);
        check.same("30 the farthest place", x.nextUse(1), 24);
        check.same("31 not in the programme is later than that", x.burnPlace(2), 0);
        check.same("31 then the farthest place", x.burnPlace(1), 1);
        check.same("31 then the next one", x.burnPlace(0), 2);
    }

    private static void burnPlaceOfWhatFades() {
        SlideBonfire x = Shows.with(Shows.slide(10, 1, 4), Shows.slide(10, 1, 4));
        Shows.load(x, 0, 1);
        Shows.programme(x, 0, 1);
        x.goOn();
        x.goOn();
        check.badState("31 fades out", () -> x.burnPlace(0));
        x.tick(4);
        check.same("31 has faded out", x.burnPlace(0), 0);
    }

    public static void main(String[] args) {
        wrongSlides(-1);
        wrongSlides(4);
        wrongSlides(16);
        wrongSlides(Integer.MAX_VALUE);
        plain();
        embers();
        nextUse();
        burnPlace();
        burnPlaceByAllPlaces();
        burnPlaceOfWhatFades();
        check.end();
    }
}
