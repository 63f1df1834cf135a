/** Promises 1 to 4: a new object, addSlide, insert, takeOut. */
public final class SlidesAndProgrammeTest {
    private static final Check check = new Check();

    private static void newObject() {
        SlideBonfire x = new SlideBonfire();
        check.same("1 slides", x.slides(), 0);
        check.same("1 places", x.places(), 0);
        check.same("1 memory", x.memory(), 150);
        check.same("1 ahead", x.ahead(), 1);
        check.same("1 order", x.order(), 0);
        check.same("1 glow", x.glow(), 5);
        check.same("1 pace", x.pace(), 0);
        check.same("1 time", x.time(), 0);
        check.same("1 savedStates", x.savedStates(), 0);
        check.same("1 clearBuffer", x.clearBuffer(), 0);
        check.badState("1 goBack(0)", () -> x.goBack(0));
        check.badState("1 goBack(1)", () -> x.goBack(1));
        check.badState("1 shown", x::shown);
        check.badState("1 loading", x::loading);
    }

    private static void addSlide() {
        SlideBonfire x = new SlideBonfire();
        check.same("2 the least", x.addSlide(1, 1, 0), 0);
        check.same("2 the most", x.addSlide(50, 20, 10), 1);
        check.same("2 cost", x.costOf(1), 50);
        check.same("2 load", x.loadOf(1), 20);
        check.same("2 fade", x.fadeOf(1), 10);
        check.same("2 saves the state from before", x.savedStates(), 2);
        int[][] wrong = {{0, 1, 0}, {51, 1, 0}, {1, 0, 0}, {1, 21, 0}, {1, 1, -1}, {1, 1, 11},
            {Integer.MIN_VALUE, 1, 0}, {1, Integer.MAX_VALUE, 0}};
        for (int[] w : wrong) {
            check.badArgument("2 out of range", () -> x.addSlide(w[0], w[1], w[2]));
        }
        check.same("2 nothing is added, nothing saved", x.slides() * 10 + x.savedStates(), 22);
        for (int i = 2; i < 16; i++) {
            check.same("2 number", x.addSlide(5, 5, 5), i);
        }
        check.badState("2 the seventeenth", () -> x.addSlide(5, 5, 5));
        check.badArgument("2 out of range comes first", () -> x.addSlide(51, 5, 5));
        check.same("2 slides", x.slides(), 16);
        x.undo();
        check.same("2 undone", x.slides(), 15);
        check.same("2 a new one takes the number", x.addSlide(7, 6, 5), 15);
        check.same("2 and the cost", x.costOf(15), 7);
    }

    private static void insert() {
        SlideBonfire x = Shows.ofHeavySlides(3);
        check.same("3 ahead of the first", x.insert(0, 2), 4);
        check.same("3 behind all", x.insert(4, 1), 5);
        check.same("3 between", x.insert(2, 2), 6);
        int[] due = {2, 0, 2, 1, 2, 1};
        for (int i = 0; i < due.length; i++) {
            check.same("3 slideAt " + i, x.slideAt(i), due[i]);
        }
        check.badIndex("3 place -1", () -> x.insert(-1, 0));
        check.badIndex("3 place 7", () -> x.insert(7, 0));
        check.badIndex("3 slide -1", () -> x.insert(0, -1));
        check.badIndex("3 slide 3", () -> x.insert(0, 3));
        check.same("3 nothing is changed", x.places(), 6);
        x.goOn();
        check.same("3 place of the show", x.showPlace(), 0);
        x.insert(1, 0);
        check.same("3 behind the place of the show", x.showPlace(), 0);
        x.insert(0, 1);
        check.same("3 ahead of the place of the show, which goes with its slide", x.showPlace(), 1);
        while (x.places() < 24) {
            x.insert(x.places(), 0);
        }
        check.badState("3 the twenty-fifth", () -> x.insert(0, 0));
        check.badIndex("3 a wrong place comes first", () -> x.insert(25, 0));
        check.badIndex("3 a wrong slide comes first", () -> x.insert(0, 3));
        x.undo();
        check.same("3 undone", x.places(), 23);
    }

    private static void insertBeginsLoading() {
        SlideBonfire x = Shows.with(Shows.slide(50, 5, 3));
        x.insert(0, 0);
        check.same("3 loading in good time begins behind it", x.loading(), 0);
    }

    private static void takeOut() {
        SlideBonfire x = Shows.ofHeavySlides(4);
        check.badIndex("4 place -1", () -> x.takeOut(-1));
        check.badIndex("4 place 4", () -> x.takeOut(4));
        check.same("4 before the show began", x.takeOut(0), 0);
        check.badState("4 no place of the show", x::showPlace);
        x.undo();
        x.goOn();
        x.tick(1);
        x.goOn();
        x.tick(1);
        x.goOn();
        check.same("4 place of the show", x.showPlace(), 2);
        check.same("4 behind it", x.takeOut(3), 3);
        check.same("4 place of the show stays", x.showPlace(), 2);
        check.same("4 ahead of it", x.takeOut(0), 0);
        check.same("4 place of the show is one less", x.showPlace(), 1);
        check.same("4 the place of the show", x.takeOut(1), 2);
        check.same("4 the place ahead of it", x.showPlace(), 0);
        check.same("4 what is waited for stays", x.awaited(), 2);
        check.same("4 the first place, of the show", x.takeOut(0), 1);
        check.badState("4 no place is left", x::showPlace);
        check.badIndex("4 empty", () -> x.takeOut(0));
        x.undo();
        check.same("4 undone", x.places(), 1);
        check.same("4 undone, the place of the show", x.showPlace(), 0);
    }

    private static void onFromNoPlace() {
        SlideBonfire x = Shows.ofHeavySlides(3);
        x.goOn();
        x.tick(1);
        x.takeOut(0);
        check.same("4 what is shown stays", x.shown(), 0);
        check.badState("4 no place of the show is left, though there are others", x::showPlace);
        check.same("4 the next one is the first one", x.nextUse(1), 1);
        x.goOn();
        check.same("4 on to the first one", x.showPlace(), 0);
        check.same("4 its slide", x.awaited(), 1);
    }

    public static void main(String[] args) {
        newObject();
        addSlide();
        insert();
        insertBeginsLoading();
        takeOut();
        onFromNoPlace();
        check.end();
    }
}
