/** Promises 14 to 17: append, clearBuffer, firstError, follow. */
public final class TextsTest {
    private static final Check check = new Check();

    private static void append() {
        SlideBonfire x = new SlideBonfire();
        check.badArgument("14 32", () -> x.append(32));
        check.badArgument("14 127", () -> x.append(127));
        check.badArgument("14 far below", () -> x.append(Integer.MIN_VALUE));
        check.same("14 33", x.append(33), 1);
        check.same("14 126", x.append(126), 2);
        check.same("14 is not undoable", x.savedStates(), 0);
        for (int i = 3; i <= 60; i++) {
            check.same("14 length", x.append('n'), i);
        }
        check.badState("14 the sixty-first", () -> x.append('n'));
        check.badArgument("14 a wrong code comes first", () -> x.append(32));
        check.same("15 length that it had", x.clearBuffer(), 60);
        check.same("15 empty", x.clearBuffer(), 0);
        check.same("15 is not undoable", x.savedStates(), 0);
    }

    private static void error(String text, int due) {
        SlideBonfire x = new SlideBonfire();
        Shows.write(x, text);
        check.same("16 " + text, x.firstError(), due);
        check.same("16 the buffer stays", x.clearBuffer(), text.length());
    }

    private static void firstError() {
        error("", 0);
        error("n", 1);
        error("n;", 2);
        error("n;n", 3);
        error("nn", 1);
        error("n0", 1);
        error(";", 0);
        error("n;;", 2);
        error("N", 0);
        error("x", 0);
        error("5", 0);
        for (String letter : new String[] {"a", "b", "p"}) {
            error(letter, 1);
            error(letter + ";", 1);
            error(letter + "0", 2);
            error(letter + "00", 2);
            error(letter + "05", 2);
            error(letter + "9;", 3);
            error(letter + "15", 3);
            error(letter + "16", 2);
            error(letter + "20", 2);
            error(letter + "150", 3);
            error(letter + "10;n", 5);
            error(letter + "-1", 1);
            error(letter + letter, 1);
        }
        error("t", 1);
        error("t0", 1);
        error("t;", 1);
        error("t1", 2);
        error("t99", 3);
        error("t100", 4);
        error("t101", 3);
        error("t110", 3);
        error("t200", 3);
        error("t1000", 4);
        error("t100;t1", 7);
        error("n;a3;b2;p15;t100;x", 17);
        error("a/", 1);
        error("a:", 1);
    }

    private static void followNoOrders(String text) {
        SlideBonfire x = Shows.ofHeavySlides(2);
        int saved = x.savedStates();
        Shows.write(x, text);
        check.badArgument("17 " + text, x::follow);
        check.same("17 nothing is saved", x.savedStates(), saved);
        check.same("17 the buffer stays", x.clearBuffer(), text.length());
    }

    private static void follow() {
        SlideBonfire x = Shows.with(Shows.slide(10, 2, 0), Shows.slide(10, 3, 0), Shows.slide(10, 3, 0));
        x.changeAhead(0);
        int saved = x.savedStates();
        long before = x.digest();
        Shows.write(x, "p1;p0;n;t3;a2;t3;b2;a0");
        check.same("17 orders", x.follow(), 8);
        check.same("17 behind all", x.slideAt(1), 0);
        check.same("17 on", x.shown(), 1);
        check.same("17 ticks", x.time(), 6);
        check.same("17 burnt", x.burntTimes(2), 1);
        check.same("17 asked", x.loading(), 0);
        check.same("17 the buffer is cleared", x.clearBuffer(), 0);
        check.same("17 one state is saved", x.savedStates(), saved + 1);
        x.undo();
        check.same("17 undone as one", x.digest(), before);
    }

    private static void followBeginsLoading() {
        SlideBonfire x = Shows.with(Shows.slide(10, 4, 0), Shows.slide(10, 4, 0));
        Shows.write(x, "p0;a1");
        x.follow();
        check.same("17 behind p", x.loading(), 0);
        check.same("17 a waits for it", x.askedAt(0), 1);
        Shows.write(x, "t8;b0;t1");
        x.follow();
        check.same("17 behind b", x.loadLeft(), 1);
        check.same("17 and not a tick later", x.warmLoads(), 1);
        Shows.write(x, "n;t1;n");
        check.same("17 n waits, then the show goes on", x.follow(), 3);
        check.same("57 hits", x.hits(), 1);
    }

    private static void followAllOrNothing(String text) {
        SlideBonfire x = Shows.with(Shows.slide(10, 2, 0), Shows.slide(10, 3, 0));
        Shows.write(x, text);
        long before = x.digest();
        check.badState("17 " + text, x::follow);
        check.same("17 nothing is changed by " + text, x.digest(), before);
    }

    private static void placesToTheFull() {
        SlideBonfire x = Shows.with(Shows.slide(10, 2, 0));
        for (int i = 0; i < 23; i++) {
            x.insert(0, 0);
        }
        Shows.write(x, "p0;p0");
        check.badState("17 the twenty-fifth place", x::follow);
        check.same("17 none of them", x.places(), 23);
        Shows.write(x, "p0");
        check.same("17 the twenty-fourth place", x.follow(), 1);
    }

    private static void theLongestText() {
        SlideBonfire x = Shows.with(Shows.slide(10, 1, 0));
        x.insert(0, 0);
        x.tick(1);
        StringBuilder text = new StringBuilder("t9");
        while (text.length() < 60) {
            text.append(";n");
        }
        Shows.write(x, text.toString());
        check.same("17 thirty orders", x.follow(), 30);
        check.same("57 hits", x.hits(), 29);
        Shows.write(x, "t100;t100;t100;t100;t100;t100;t100;t100;t100;t100;t100;t1000");
        check.badArgument("17 sixty characters, the last one wrong", x::follow);
        check.same("16 the last one", x.firstError(), 59);
    }

    public static void main(String[] args) {
        append();
        firstError();
        for (String text : new String[] {"", "n;", "a", "t", "nn", "a16", "t0", ";n", "n;;n", "t101", "p01"}) {
            followNoOrders(text);
        }
        follow();
        followBeginsLoading();
        for (String text : new String[] {"n", "p0;n;n", "p0;n;a0", "t5;a2", "a0;a0", "b0", "a0;b0", "a0;t2;a0",
            "t1;p2", "p0;n;t2;b0", "p0;n;t2;b1"}) {
            followAllOrNothing(text);
        }
        placesToTheFull();
        theLongestText();
        check.end();
    }
}
