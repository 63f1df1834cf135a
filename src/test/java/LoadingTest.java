/** Promises 40 to 45 and what the document says of loading and of the memory. */
public final class LoadingTest {
    private static final Check check = new Check();

    private static void told() {
        SlideBonfire x = Shows.with(Shows.slide(11, 3, 0), Shows.slide(22, 3, 0), Shows.slide(33, 3, 0));
        check.badState("40 none", x::loading);
        check.same("41 none", x.loadLeft(), 0);
        check.same("42 none", x.asked(), 0);
        check.same("44 nothing", x.takenBySlides(), 0);
        x.ask(1);
        x.ask(0);
        check.same("40 loading", x.loading(), 1);
        check.same("41 left", x.loadLeft(), 3);
        check.same("42 asked", x.asked(), 1);
        check.same("44 what is being loaded takes memory", x.takenBySlides(), 22);
        check.same("45 by account", x.takenByAccount(), 22);
        x.tick(2);
        check.same("41 a tick is left", x.loadLeft(), 1);
        x.tick(1);
        check.yes("26 loaded", x.isLoaded(1));
        check.same("40 the next one", x.loading(), 0);
        check.same("44 both", x.takenBySlides(), 33);
        check.same("45 both", x.takenByAccount(), 33);
        x.tick(3);
        check.badState("40 none again", x::loading);
        check.same("41 none again", x.loadLeft(), 0);
        x.burn(1);
        check.same("44 one is burnt", x.takenBySlides(), 11);
        check.same("45 one is burnt", x.takenByAccount(), 11);
    }

    private static void askedIsLoadedAheadOfGoodTime() {
        SlideBonfire x = Shows.with(Shows.slide(10, 2, 0), Shows.slide(10, 2, 0), Shows.slide(10, 2, 0));
        Shows.programme(x, 0, 1);
        x.ask(2);
        check.same("40 in good time goes on", x.loading(), 0);
        x.changeAhead(2);
        x.tick(2);
        check.same("40 then what was asked for", x.loading(), 2);
        x.tick(2);
        check.same("40 then in good time", x.loading(), 1);
    }

    private static void askedBurns() {
        SlideBonfire x = Shows.ofHeavySlides(5);
        Shows.load(x, 0, 1, 2);
        x.ask(3);
        check.no("40 the first one that was used is burnt", x.isLoaded(0));
        check.same("45 full", x.takenByAccount(), 150);
        check.same("42 none is asked for any more", x.asked(), 0);
    }

    private static void memoryIsJustEnough() {
        SlideBonfire x = Shows.with(Shows.slide(50, 1, 9), Shows.slide(50, 1, 9), Shows.slide(50, 1, 9), Shows.slide(49, 1, 9));
        Shows.programme(x, 0, 1, 2);
        x.goOn();
        x.tick(2);
        x.goOn();
        check.same("45 one of two on show fades out", x.fading(), 0);
        check.same("45 the third one in good time, there is just room for it", x.takenByAccount(), 150);
        x.tick(1);
        check.same("61 none was burnt", x.burnings(), 0);
        x.ask(3);
        check.yes("61 not the ones on show", x.isLoaded(0) && x.isLoaded(1));
        check.no("61 but the third one", x.isLoaded(2));
        check.same("40 the one that was asked for", x.loading(), 3);
    }

    private static void oneIsLoadedAtATime() {
        SlideBonfire x = Shows.ofFour();
        x.goOn();
        x.tick(5);
        check.same("40 slide 1 in good time", x.loading(), 1);
        x.takeOut(1);
        x.goOn();
        check.same("38 slide 2 is waited for", x.awaited(), 2);
        check.same("40 slide 1 goes on", x.loading(), 1);
        x.tick(4);
        check.same("40 then slide 2", x.loading(), 2);
        check.same("59 loads", x.loads(), 3);
    }

    public static void main(String[] args) {
        told();
        askedIsLoadedAheadOfGoodTime();
        askedBurns();
        memoryIsJustEnough();
        oneIsLoadedAtATime();
        check.end();
    }
}
