/** Promises 9 to 13: the settings, and 46 to 50, which tell them. */
public final class SettingsTest {
    private static final Check check = new Check();

    private static void changeMemory() {
        SlideBonfire x = new SlideBonfire();
        check.badArgument("9 149", () -> x.changeMemory(149));
        check.badArgument("9 401", () -> x.changeMemory(401));
        check.same("9 before", x.changeMemory(400), 150);
        check.same("46 memory", x.memory(), 400);
        check.same("9 before again", x.changeMemory(150), 400);
        x.undo();
        check.same("9 undone", x.memory(), 400);
    }

    private static void lessMemoryBurns() {
        SlideBonfire x = Shows.ofHeavySlides(6);
        x.changeMemory(300);
        Shows.load(x, 0, 1, 2, 3, 4);
        x.goOn();
        x.ask(5);
        check.same("9 all is taken", x.takenByAccount(), 300);
        x.changeMemory(249);
        check.no("9 the one that was used the longest ago", x.isLoaded(1));
        check.no("9 and the next one", x.isLoaded(2));
        check.yes("9 no more than needed", x.isLoaded(3));
        check.yes("9 not the one on show", x.isLoaded(0));
        check.same("9 nor the one that is being loaded", x.loading(), 5);
        check.same("9 taken", x.takenByAccount(), 200);
        check.same("9 burnings", x.burnings(), 2);
        x.changeMemory(200);
        check.same("9 room enough: none is burnt", x.burnings(), 2);
    }

    private static void moreMemoryBeginsLoading() {
        SlideBonfire x = Shows.with(Shows.slide(50, 1, 0), Shows.slide(50, 1, 0), Shows.slide(50, 1, 0), Shows.slide(50, 1, 0));
        Shows.load(x, 0, 1, 2);
        Shows.programme(x, 3);
        check.badState("9 no room", x::loading);
        x.changeMemory(199);
        check.badState("9 not enough of it", x::loading);
        x.changeMemory(200);
        check.same("9 room: loading begins behind it", x.loading(), 3);
    }

    private static void changeAhead() {
        SlideBonfire x = Shows.ofHeavySlides(3);
        check.badArgument("10 -1", () -> x.changeAhead(-1));
        check.badArgument("10 5", () -> x.changeAhead(5));
        check.same("10 before", x.changeAhead(2), 0);
        check.same("47 ahead", x.ahead(), 2);
        check.same("10 loading begins behind it", x.loading(), 0);
        x.tick(1);
        check.same("10 the second place", x.loading(), 1);
        x.tick(1);
        check.badState("10 the third place is too far", x::loading);
        check.same("10 before", x.changeAhead(4), 2);
        check.same("10 round and round", x.loading(), 2);
        x.undo();
        check.same("10 undone", x.ahead(), 2);
        check.badState("10 undone, the loading, too", x::loading);
    }

    /** Only the first slide that is not loaded counts, also if there were room for a later one. */
    private static void noRoomForTheFirstOne() {
        SlideBonfire x = Shows.with(Shows.slide(50, 1, 0), Shows.slide(50, 1, 0), Shows.slide(31, 1, 0), Shows.slide(20, 1, 0),
            Shows.slide(19, 1, 0));
        Shows.load(x, 0, 1, 2);
        Shows.programme(x, 3, 4);
        x.changeAhead(4);
        check.badState("10 none is loaded", x::loading);
        x.takeOut(0);
        check.same("10 the other one is", x.loading(), 4);
        check.same("10 the memory is full then", x.takenByAccount(), 150);
        check.same("10 nothing is burnt for it", x.burnings(), 0);
    }

    private static void changeOrder() {
        SlideBonfire x = new SlideBonfire();
        check.badArgument("11 -1", () -> x.changeOrder(-1));
        check.badArgument("11 3", () -> x.changeOrder(3));
        check.same("11 before", x.changeOrder(2), 0);
        check.same("48 order", x.order(), 2);
        check.same("11 before again", x.changeOrder(1), 2);
        x.undo();
        check.same("11 undone", x.order(), 2);
    }

    /** Slides 0 to 3 are loaded in the order 2, 0, 3, 1; the programme tells 1, 3, 0. */
    private static SlideBonfire forOrders() {
        SlideBonfire x = Shows.with(Shows.slide(20, 1, 0), Shows.slide(40, 1, 0), Shows.slide(20, 1, 0), Shows.slide(40, 1, 0),
            Shows.slide(50, 1, 0));
        Shows.load(x, 2, 0, 3, 1);
        Shows.programme(x, 1, 3, 0);
        return x;
    }

    private static void order(int order, int... due) {
        SlideBonfire x = forOrders();
        x.changeOrder(order);
        for (int i = 0; i < due.length; i++) {
            check.same("31 order " + order + " slide " + due[i], x.burnPlace(due[i]), i);
        }
        x.ask(4);
        check.no("11 order " + order + " burns the first one", x.isLoaded(due[0]));
        boolean second = order == 1 || 120 - x.costOf(due[0]) + 50 <= 150;
        check.same("11 order " + order + " burns until there is room", x.burnings(), second ? 1 : 2);
    }

    private static void usedAsItIsShown() {
        SlideBonfire x = Shows.ofHeavySlides(3);
        Shows.load(x, 0, 1, 2);
        check.same("31 the first one that was loaded", x.burnPlace(0), 0);
        x.goOn();
        x.goOn();
        check.same("31 slide 2 was used ahead of 0, which was shown", x.burnPlace(2), 0);
        check.same("31 slide 0 behind it", x.burnPlace(0), 1);
        check.badState("31 on show", () -> x.burnPlace(1));
        x.goOn();
        check.same("31 slide 0 was shown first", x.burnPlace(0), 0);
        check.same("31 slide 1 was shown then", x.burnPlace(1), 1);
    }

    private static void changeGlow() {
        SlideBonfire x = Shows.with(Shows.slide(20, 7, 0));
        check.badArgument("12 -1", () -> x.changeGlow(-1));
        check.badArgument("12 21", () -> x.changeGlow(21));
        check.same("12 before", x.changeGlow(20), 5);
        check.same("49 glow", x.glow(), 20);
        Shows.load(x, 0);
        x.burn(0);
        check.same("28 glows", x.glowOf(0), 20);
        check.same("12 before", x.changeGlow(0), 20);
        check.same("12 embers that glow go on", x.glowOf(0), 20);
        Shows.load(x, 0);
        x.burn(0);
        check.same("12 no ember", x.glowOf(0), 0);
        check.same("12 all of the ticks", x.loadOf(0), 7);
        x.undo();
        x.undo();
        x.undo();
        x.undo();
        check.same("12 undone", x.glow(), 20);
    }

    private static void changePace() {
        SlideBonfire x = new SlideBonfire();
        check.badArgument("13 -1", () -> x.changePace(-1));
        check.badArgument("13 51", () -> x.changePace(51));
        check.same("13 before", x.changePace(50), 0);
        check.same("50 pace", x.pace(), 50);
        check.same("13 before again", x.changePace(0), 50);
        x.undo();
        check.same("13 undone", x.pace(), 50);
    }

    public static void main(String[] args) {
        changeMemory();
        lessMemoryBurns();
        moreMemoryBeginsLoading();
        changeAhead();
        noRoomForTheFirstOne();
        changeOrder();
        order(0, 2, 0, 3, 1);
        order(1, 1, 3, 0, 2);
        order(2, 2, 0, 3, 1);
        usedAsItIsShown();
        changeGlow();
        changePace();
        check.end();
    }
}
