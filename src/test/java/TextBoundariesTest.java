import java.util.function.Consumer;
import java.util.function.Supplier;

/** Promises 14 to 17: the buffer from empty to full, where its first error is, and which orders are not followed. */
public final class TextBoundariesTest {

    private static SlideBonfire writing(String text) {
        SlideBonfire x = new SlideBonfire();
        Shows.write(x, text);
        return x;
    }

    private static void error(Check check, String text, int due) {
        SlideBonfire x = writing(text);
        check.same("firstError() of " + text, x.firstError(), due);
        check.same("the buffer stays " + text, x.clearBuffer(), text.length());
    }

    /** The text is one of orders, without an error, and can't go on with this character. */
    private static void endsAhead(Check check, String text, String next) {
        error(check, text, text.length());
        error(check, text + next, text.length());
    }

    private static String repeated(String part, int times, String end) {
        return part.repeat(times) + end;
    }

    @Says(promise = 14, sentence = "- code: the character code, 33 to 126")
    static void codes(Check check) {
        SlideBonfire x = new SlideBonfire();
        check.same("the least", x.append(33), 1);
        check.same("the most", x.append(126), 2);
    }

    @Says(promise = 14, sentence = "Throws IllegalArgumentException if code is not 33 to 126")
    static void wrongCodes(Check check) {
        for (int code : new int[] {32, 127, 0, -1, 128, 256 + 'n', 65536 + 'n', Integer.MIN_VALUE, Integer.MAX_VALUE}) {
            check.badArgument("append(" + code + ")", Shows::busy, s -> s.append(code));
        }
    }

    @Says(promise = 14, sentence = "Throws IllegalStateException if the buffer has 60 characters")
    static void sixtyFirstCharacter(Check check) {
        check.same("the sixtieth", writing("n".repeat(59)).append('n'), 60);
        check.badState("the sixty-first", () -> writing("n".repeat(60)), s -> s.append('n'));
    }

    @Says(promise = 14, sentence = "If several exceptions apply, the one that is named first in the throws clause is thrown.")
    static void sixtyFirstWrongCharacter(Check check) {
        check.badArgument("32", () -> writing("n".repeat(60)), s -> s.append(32));
        check.badArgument("127", () -> writing("n".repeat(60)), s -> s.append(127));
    }

    @Says(promise = 14, sentence = "The buffer has at most 60 characters.")
    static void sixtyCharacters(Check check) {
        SlideBonfire x = new SlideBonfire();
        for (int i = 1; i <= 60; i++) {
            check.same("length", x.append(33 + i), i);
        }
        check.badState("no more", () -> x.append('n'));
        x.clearBuffer();
        check.same("cleared, there is room again", x.append('n'), 1);
    }

    @Says(promise = 15, sentence = "Returns the length that it had.")
    static void lengthThatItHad(Check check) {
        check.same("empty", new SlideBonfire().clearBuffer(), 0);
        check.same("one", writing("x").clearBuffer(), 1);
        SlideBonfire x = writing("x".repeat(60));
        check.same("full", x.clearBuffer(), 60);
        check.same("empty then", x.clearBuffer(), 0);
    }

    @Says(promise = 15, sentence = "Clears the buffer.")
    static void nothingIsLeft(Check check) {
        SlideBonfire x = writing("t99;n;n;x");
        Shows.write(x, "t9");
        check.same("no error is left", x.firstError(), 2);
        check.same("one order", x.follow(), 1);
        check.same("of nine ticks", x.time(), 9);
        x.append('t');
        check.badArgument("nor is anything left by follow()", () -> x.follow());
        x.append('1');
        check.same("one order again", x.follow(), 1);
        check.same("of one tick", x.time(), 10);
    }

    @Says(promise = 16, sentence = "Returns the index of the first character that is a syntax error; the length of the buffer if "
        + "there is none.")
    static void indexOrLength(Check check) {
        error(check, "", 0);
        error(check, "n", 1);
        error(check, "x", 0);
        error(check, "n;x;y", 2);
        error(check, repeated("n;", 30, ""), 60);
        error(check, repeated("n;", 29, "nx"), 59);
        error(check, "x" + "n".repeat(59), 0);
    }

    @Says(promise = 16, sentence = "The buffer is read from left to right")
    static void leftmostOfSeveral(Check check) {
        error(check, "xx", 0);
        error(check, "n;;;", 2);
        error(check, "n;a99;t0", 4);
        error(check, "a0;b00;c", 5);
        error(check, "n;t1;x;n", 5);
    }

    @Says(promise = 16, sentence = "a character is a syntax error if no orders as a text, of any length, begin with the characters "
        + "before it and this character")
    static void ofAnyLength(Check check) {
        error(check, "n;", 2);
        error(check, "t", 1);
        error(check, "a", 1);
        error(check, repeated("n;", 29, "na"), 59);
        error(check, repeated("n;", 29, "n;"), 60);
        error(check, repeated("t5;", 19, "n;a"), 60);
        error(check, repeated("t5;", 19, "n;t"), 60);
    }

    @Says(promise = 16, sentence = "Orders as a text are one or more parts with \";\" between them: \"n\" (the show goes on)")
    static void partsBetweenSemicolons(Check check) {
        endsAhead(check, "", ";");
        endsAhead(check, "n", "n");
        endsAhead(check, "n", "0");
        endsAhead(check, "n", ":");
        endsAhead(check, "n;", ";");
        endsAhead(check, "n;n;", ";");
        endsAhead(check, "a1;", ";");
        endsAhead(check, "n;", "1");
        endsAhead(check, "", "N");
        endsAhead(check, "", "1");
        error(check, "n;n", 3);
    }

    @Says(promise = 16, sentence = "\"a\", \"b\" or \"p\" and a slide, 0 to 15 (it is asked for, burnt, or put behind the programme)")
    static void slidesInParts(Check check) {
        for (String letter : new String[] {"a", "b", "p"}) {
            for (int slide = 0; slide <= 15; slide++) {
                error(check, letter + slide + ";n", (letter + slide).length() + 2);
            }
            endsAhead(check, letter, ";");
            endsAhead(check, letter, letter);
            endsAhead(check, letter, "/");
            endsAhead(check, letter, ":");
            endsAhead(check, letter + "1", "6");
            endsAhead(check, letter + "1", "9");
            endsAhead(check, letter + "1", "n");
            endsAhead(check, letter + "2", "0");
            endsAhead(check, letter + "9", "0");
            endsAhead(check, letter + "10", "0");
            endsAhead(check, letter + "15", "0");
        }
        endsAhead(check, "", "c");
        endsAhead(check, "", "o");
        endsAhead(check, "", "q");
    }

    @Says(promise = 16, sentence = "or \"t\" and 1 to 100 (so many ticks go by)")
    static void ticksInParts(Check check) {
        for (int ticks = 1; ticks <= 100; ticks++) {
            error(check, "t" + ticks + ";n", ("t" + ticks).length() + 2);
        }
        endsAhead(check, "t", "0");
        endsAhead(check, "t", ";");
        endsAhead(check, "t10", "1");
        endsAhead(check, "t11", "0");
        endsAhead(check, "t99", "0");
        endsAhead(check, "t100", "0");
        endsAhead(check, "", "s");
        endsAhead(check, "", "u");
    }

    @Says(promise = 16, sentence = "Numbers are without leading zeros.")
    static void leadingZeros(Check check) {
        for (String letter : new String[] {"a", "b", "p"}) {
            endsAhead(check, letter + "0", "0");
            endsAhead(check, letter + "0", "1");
            error(check, letter + "0;n", 4);
        }
        endsAhead(check, "t", "0");
    }

    @Says(promise = 17, sentence = "Throws IllegalArgumentException if the buffer does not tell orders as a text")
    static void noOrders(Check check) {
        for (String text : new String[] {"", ";", "n;", ";n", "n;;n", "a", "b", "p", "t", "a16", "t0", "t101", "a01", "nn", "n;t",
            "n;x", "x;n", repeated("n;", 30, "")}) {
            check.badArgument("follow() of " + text, () -> {
                SlideBonfire x = Shows.busy();
                Shows.write(x, text);
                return x;
            }, s -> s.follow());
        }
        check.badArgument("also if a method would throw ahead of the error", () -> writing("n;x"), s -> s.follow());
    }

    /** A show in which each order but "t" has a reason to be refused, with a text that begins with one that is not. */
    private static Supplier<SlideBonfire> told(String text) {
        return () -> {
            SlideBonfire x = Shows.busy();
            Shows.write(x, text);
            return x;
        };
    }

    @Says(promise = 17, sentence = "Throws IllegalStateException if one of these methods would throw any exception, when its turn "
        + "comes")
    static void notToBeFollowed(Check check) {
        String[] texts = {"a6", "a15", "a0", "a2", "a3", "a4", "b6", "b0", "b1", "b3", "b4", "b5", "p6", "p15"};
        for (String text : texts) {
            check.badState("follow() of " + text, told(text), s -> s.follow());
            check.badState("follow() of t1;p0;" + text, told("t1;p0;" + text), s -> s.follow());
            check.badState("follow() of " + text + ";t1", told(text + ";t1"), s -> s.follow());
        }
        check.badState("n through an empty programme", () -> writing("n"), s -> s.follow());
        check.badState("n while one is waited for", told("n;n"), s -> s.follow());
        check.badState("a of what is waited for", told("n;a3"), s -> s.follow());
        check.badState("a twice", told("a5;a5"), s -> s.follow());
        check.badState("b twice", told("b2;b2"), s -> s.follow());
    }

    @Says(promise = 17, sentence = "when its turn comes")
    static void whenItsTurnComes(Check check) {
        check.same("burnt, then asked for", followed("b2;a2"), 2);
        check.same("faded out, then burnt", followed("t4;b1"), 2);
        check.badState("a tick too soon", told("t3;b1"), s -> s.follow());
        check.same("waited for, shown, and on", followed("n;t6;n"), 3);
        check.badState("on a tick too soon", told("n;t5;n"), s -> s.follow());
        SlideBonfire x = Shows.ofPlaces(23);
        Shows.write(x, "p0");
        check.same("the twenty-fourth place", x.follow(), 1);
        check.badState("the twenty-fifth place", () -> {
            SlideBonfire y = Shows.ofPlaces(23);
            Shows.write(y, "p0;p0");
            return y;
        }, s -> s.follow());
    }

    private static int followed(String text) {
        return told(text).get().follow();
    }

    /** Slides 0 and 1 are loaded, 0 is shown; nothing is being loaded. */
    private static SlideBonfire idle(int... programme) {
        SlideBonfire x = Shows.ofAlike(4, 10, 4, 0);
        Shows.load(x, 0, 1);
        Shows.programme(x, programme);
        x.goOn();
        return x;
    }

    private static void sameAsTheCall(Check check, String text, Supplier<SlideBonfire> show, Consumer<SlideBonfire> call) {
        SlideBonfire x = show.get();
        SlideBonfire y = show.get();
        Shows.write(x, text);
        x.follow();
        call.accept(y);
        check.same(text + " as the call, digest()", x.digest(), y.digest());
        check.sameText(text + " as the call", Answers.of(x), Answers.of(y));
    }

    @Says(promise = 17, sentence = "Follows the orders of the buffer as goOn(), ask(), burn(), tick(), and insert() behind all do")
    static void asTheCallsDo(Check check) {
        sameAsTheCall(check, "n", () -> idle(0, 1, 2), x -> x.goOn());
        sameAsTheCall(check, "n", () -> idle(0, 2), x -> x.goOn());
        sameAsTheCall(check, "a3", () -> idle(0, 1), x -> x.ask(3));
        sameAsTheCall(check, "b1", () -> idle(0, 1), x -> x.burn(1));
        sameAsTheCall(check, "p2", () -> idle(0), x -> x.insert(1, 2));
        sameAsTheCall(check, "p0", () -> idle(0, 1), x -> x.insert(2, 0));
        sameAsTheCall(check, "t1", () -> idle(0, 1), x -> x.tick(1));
        sameAsTheCall(check, "t100", () -> idle(0, 2), x -> x.tick(100));
    }

    @Says(promise = 17, sentence = "one after the other, all or nothing, and clears the buffer")
    static void clears(Check check) {
        SlideBonfire x = told("t1").get();
        x.follow();
        check.same("followed", x.clearBuffer(), 0);
        SlideBonfire y = told("t1;b5").get();
        int time = y.time();
        check.badState("not followed", () -> y.follow());
        check.same("nothing of it", y.time(), time);
        check.same("not cleared", y.clearBuffer(), 5);
    }

    @Says(promise = 17, sentence = "Returns how many orders there are.")
    static void manyOrders(Check check) {
        SlideBonfire x = Shows.ofAlike(1, 10, 1, 0);
        Shows.load(x, 0);
        x.insert(0, 0);
        Shows.write(x, "n");
        check.same("one", x.follow(), 1);
        Shows.write(x, repeated("n;", 29, "n"));
        check.same("as many as the buffer can tell", x.follow(), 30);
        check.same("all of them", x.hits(), 31);
        Shows.write(x, repeated("t100;", 11, "t100"));
        check.same("the most ticks", x.follow(), 12);
        check.same("time", x.time(), 1201);
    }

    @Says(promise = 17, sentence = "Undoable, as one call.")
    static void undoneAsOne(Check check) {
        SlideBonfire x = Shows.ofAlike(1, 10, 1, 0);
        long before = x.digest();
        Shows.write(x, "p0;n;t1;n;t5;p0;p0;p0");
        x.follow();
        check.same("one state is saved", x.savedStates(), 2);
        x.undo();
        check.same("undone", x.digest(), before);
    }

    public static void main(String[] args) {
        Boundaries.run(TextBoundariesTest.class);
    }
}
