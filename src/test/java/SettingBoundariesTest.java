/** Promises 9 to 13 and 46 to 50: the least and the most of each setting. */
public final class SettingBoundariesTest {

    @Says(promise = 9, sentence = "- memory: 150 to 400")
    static void memories(Check check) {
        SlideBonfire x = new SlideBonfire();
        check.same("the most", x.changeMemory(400), 150);
        check.same("a little less", x.changeMemory(399), 400);
        check.same("a little more than the least", x.changeMemory(151), 399);
        check.same("the least", x.changeMemory(150), 151);
        check.same("the same again", x.changeMemory(150), 150);
    }

    @Says(promise = 9, sentence = "Throws IllegalArgumentException if memory is out of range")
    static void wrongMemories(Check check) {
        for (int memory : new int[] {149, 401, 0, -150, Integer.MIN_VALUE, Integer.MAX_VALUE}) {
            check.badArgument("changeMemory(" + memory + ")", Shows::busy, s -> s.changeMemory(memory));
        }
    }

    @Says(promise = 46, sentence = "The memory is 150 to 400, at first 150.")
    static void memoryAtFirst(Check check) {
        check.same("at first", new SlideBonfire().memory(), 150);
    }

    @Says(promise = 46, sentence = "Returns 150 to 400.")
    static void memory(Check check) {
        SlideBonfire x = new SlideBonfire();
        for (int memory : new int[] {400, 151, 150, 399}) {
            x.changeMemory(memory);
            check.same("memory()", x.memory(), memory);
        }
    }

    @Says(promise = 46, sentence = "The memory is 150 to 400, at first 150.")
    static void memoryToTheFull(Check check) {
        SlideBonfire x = Shows.ofAlike(9, 50, 1, 0);
        x.changeMemory(400);
        Shows.load(x, 0, 1, 2, 3, 4, 5, 6, 7);
        check.same("400 is taken", x.takenBySlides(), 400);
        check.same("without burning", x.burnings(), 0);
        x.ask(8);
        check.same("no more than that", x.takenBySlides(), 400);
        check.same("one is burnt", x.burnings(), 1);
    }

    @Says(promise = 10, sentence = "- places: 0 to 4")
    static void placesAhead(Check check) {
        SlideBonfire x = new SlideBonfire();
        check.same("the most", x.changeAhead(4), 1);
        check.same("the least", x.changeAhead(0), 4);
        check.same("the same again", x.changeAhead(0), 0);
    }

    @Says(promise = 10, sentence = "Throws IllegalArgumentException if places is out of range")
    static void wrongPlacesAhead(Check check) {
        for (int places : new int[] {-1, 5, Integer.MIN_VALUE, Integer.MAX_VALUE}) {
            check.badArgument("changeAhead(" + places + ")", Shows::busy, s -> s.changeAhead(places));
        }
    }

    @Says(promise = 47, sentence = "Returns 0 to 4.")
    static void ahead(Check check) {
        SlideBonfire x = new SlideBonfire();
        check.same("at first", x.ahead(), 1);
        for (int places = 4; places >= 0; places--) {
            x.changeAhead(places);
            check.same("ahead()", x.ahead(), places);
        }
    }

    @Says(promise = 11, sentence = "- order: 0 the one that was used the longest ago, 1 the one with the greatest cost, 2 the one "
        + "that is used next the latest")
    static void orders(Check check) {
        int[] due = {1, 2, 0};
        for (int order = 0; order <= 2; order++) {
            SlideBonfire x = Shows.with(Shows.slide(10, 1, 0), Shows.slide(20, 1, 0), Shows.slide(30, 1, 0));
            Shows.load(x, 1, 2, 0);
            Shows.programme(x, 2, 1, 0);
            x.changeOrder(2 - order);
            check.same("before", x.changeOrder(order), 2 - order);
            check.same("the first one to burn with " + order, x.burnPlace(due[order]), 0);
        }
    }

    @Says(promise = 11, sentence = "Throws IllegalArgumentException if order is out of range")
    static void wrongOrders(Check check) {
        for (int order : new int[] {-1, 3, Integer.MIN_VALUE, Integer.MAX_VALUE}) {
            check.badArgument("changeOrder(" + order + ")", Shows::busy, s -> s.changeOrder(order));
        }
    }

    @Says(promise = 48, sentence = "Returns 0 to 2.")
    static void order(Check check) {
        SlideBonfire x = new SlideBonfire();
        check.same("at first", x.order(), 0);
        for (int order = 2; order >= 0; order--) {
            x.changeOrder(order);
            check.same("order()", x.order(), order);
        }
    }

    @Says(promise = 12, sentence = "- ticks: 0 to 20")
    static void glows(Check check) {
        SlideBonfire x = new SlideBonfire();
        check.same("the most", x.changeGlow(20), 5);
        check.same("the least", x.changeGlow(0), 20);
        check.same("the same again", x.changeGlow(0), 0);
    }

    @Says(promise = 12, sentence = "A slide that is burnt leaves an ember that glows for as many ticks as told")
    static void embersThatGlowAlready(Check check) {
        SlideBonfire x = Shows.ofAlike(2, 10, 1, 0);
        Shows.load(x, 0, 1);
        x.burn(0);
        x.changeGlow(0);
        check.same("as many ticks as were told as it was burnt", x.glowOf(0), 5);
        x.burn(1);
        check.same("none is told", x.glowOf(1), 0);
        x.changeGlow(20);
        check.same("no more ticks than that", x.glowOf(0), 5);
        check.same("no ember comes of it", x.glowOf(1), 0);
    }

    @Says(promise = 12, sentence = "Throws IllegalArgumentException if ticks is out of range")
    static void wrongGlows(Check check) {
        for (int ticks : new int[] {-1, 21, Integer.MIN_VALUE, Integer.MAX_VALUE}) {
            check.badArgument("changeGlow(" + ticks + ")", Shows::busy, s -> s.changeGlow(ticks));
        }
    }

    @Says(promise = 49, sentence = "Returns 0 to 20.")
    static void glow(Check check) {
        SlideBonfire x = new SlideBonfire();
        check.same("at first", x.glow(), 5);
        for (int ticks : new int[] {20, 1, 0, 19}) {
            x.changeGlow(ticks);
            check.same("glow()", x.glow(), ticks);
        }
    }

    @Says(promise = 13, sentence = "- ticks: 0 to 50; 0 if it does not")
    static void paces(Check check) {
        SlideBonfire x = new SlideBonfire();
        check.same("the most", x.changePace(50), 0);
        check.same("the least", x.changePace(0), 50);
        check.same("the same again", x.changePace(0), 0);
    }

    @Says(promise = 13, sentence = "Throws IllegalArgumentException if ticks is out of range")
    static void wrongPaces(Check check) {
        for (int ticks : new int[] {-1, 51, Integer.MIN_VALUE, Integer.MAX_VALUE}) {
            check.badArgument("changePace(" + ticks + ")", Shows::busy, s -> s.changePace(ticks));
        }
    }

    @Says(promise = 50, sentence = "Returns 0 to 50.")
    static void pace(Check check) {
        SlideBonfire x = new SlideBonfire();
        check.same("at first", x.pace(), 0);
        for (int ticks : new int[] {50, 1, 0, 49}) {
            x.changePace(ticks);
            check.same("pace()", x.pace(), ticks);
        }
    }

    public static void main(String[] args) {
        Boundaries.run(SettingBoundariesTest.class);
    }
}
