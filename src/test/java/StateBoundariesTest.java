import java.util.ArrayList;
import java.util.List;
import java.util.function.Consumer;

/** Promises 18 to 21: slots empty and full, the first and the last state that can be undone, and what saves none. */
public final class StateBoundariesTest {

    /** A call with its name. */
    private record Named(String name, Consumer<SlideBonfire> call) {
    }

    /** Each undoable call, such that it goes through with a busy show. */
    private static List<Named> undoable() {
        return List.of(
            new Named("addSlide", x -> x.addSlide(1, 1, 0)),
            new Named("insert", x -> x.insert(0, 2)),
            new Named("takeOut", x -> x.takeOut(0)),
            new Named("goOn", x -> x.goOn()),
            new Named("ask", x -> x.ask(5)),
            new Named("burn", x -> x.burn(2)),
            new Named("tick", x -> x.tick(1)),
            new Named("changeMemory", x -> x.changeMemory(300)),
            new Named("changeAhead", x -> x.changeAhead(4)),
            new Named("changeOrder", x -> x.changeOrder(2)),
            new Named("changeGlow", x -> x.changeGlow(1)),
            new Named("changePace", x -> x.changePace(1)),
            new Named("follow", StateBoundariesTest::followTwo),
            new Named("goBack", x -> x.goBack(1)));
    }

    private static void followTwo(SlideBonfire x) {
        Shows.write(x, "t1;a5");
        x.follow();
    }

    /** A busy show with two snapshots, the second one of a former state, and one saved state alone. */
    private static SlideBonfire withOneSaved() {
        SlideBonfire x = Shows.busy();
        x.undo();
        x.keep(1);
        while (x.savedStates() > 0) {
            x.undo();
        }
        x.goBack(0);
        return x;
    }

    @Says(promise = 18, sentence = "- slot: 0 or 1")
    static void slotsToKeep(Check check) {
        SlideBonfire x = new SlideBonfire();
        x.keep(0);
        x.tick(7);
        x.keep(1);
        x.goBack(0);
        check.same("the first slot", x.time(), 0);
        x.goBack(1);
        check.same("the second slot", x.time(), 7);
    }

    @Says(promise = 18, sentence = "Throws IllegalArgumentException if slot is out of range")
    static void wrongSlotsToKeep(Check check) {
        for (int slot : new int[] {-1, 2, Integer.MIN_VALUE, Integer.MAX_VALUE}) {
            check.badArgument("keep(" + slot + ")", Shows::busy, s -> s.keep(slot));
        }
    }

    @Says(promise = 18, sentence = "Takes a snapshot, in place of the one in the slot.")
    static void inPlaceOfTheOneInTheSlot(Check check) {
        SlideBonfire x = new SlideBonfire();
        x.keep(0);
        x.keep(1);
        x.tick(3);
        x.keep(0);
        x.tick(3);
        x.goBack(0);
        check.same("the later one", x.time(), 3);
        x.goBack(1);
        check.same("the other slot stays", x.time(), 0);
    }

    @Says(promise = 19, sentence = "- slot: 0 or 1")
    static void slotsToGoBackTo(Check check) {
        SlideBonfire x = new SlideBonfire();
        x.tick(1);
        x.keep(1);
        check.badState("only the other one has a snapshot", () -> x.goBack(0));
        x.tick(1);
        x.goBack(1);
        check.same("the second slot", x.time(), 1);
        x.keep(0);
        x.tick(1);
        x.goBack(0);
        check.same("the first slot", x.time(), 1);
    }

    @Says(promise = 19, sentence = "Throws IllegalArgumentException if slot is out of range")
    static void wrongSlotsToGoBackTo(Check check) {
        for (int slot : new int[] {-1, 2, Integer.MIN_VALUE, Integer.MAX_VALUE}) {
            check.badArgument("goBack(" + slot + ")", Shows::busy, s -> s.goBack(slot));
            check.badArgument("goBack(" + slot + ") of a new show", SlideBonfire::new, s -> s.goBack(slot));
        }
    }

    @Says(promise = 19, sentence = "Throws IllegalStateException if there is no snapshot in it")
    static void noSnapshot(Check check) {
        check.badState("slot 0 of a new show", SlideBonfire::new, s -> s.goBack(0));
        check.badState("slot 1 of a new show", SlideBonfire::new, s -> s.goBack(1));
        check.badState("the other slot", Shows::busy, s -> s.goBack(1));
    }

    @Says(promise = 19, sentence = "Goes back to a snapshot, which stays.")
    static void whichStays(Check check) {
        SlideBonfire x = Shows.busy();
        int time = x.time();
        for (int i = 0; i < 8; i++) {
            x.tick(10);
            x.goOn();
            x.goBack(0);
            check.same("time " + i, x.time(), time);
            check.same("shown " + i, x.shown(), 0);
            check.same("loadLeft " + i, x.loadLeft(), 6);
        }
    }

    @Says(promise = 19, sentence = "There are two slots; a snapshot is all but the buffer, the slots and the saved states.")
    static void whatASnapshotIs(Check check) {
        SlideBonfire x = new SlideBonfire();
        Shows.write(x, "n");
        x.keep(0);
        x.tick(1);
        Shows.write(x, "t1");
        x.keep(1);
        x.goBack(0);
        check.same("the buffer is not in it", x.clearBuffer(), 2);
        check.same("nor are the saved states", x.savedStates(), 2);
        x.goBack(1);
        check.same("nor are the slots", x.time(), 1);
        SlideBonfire y = Shows.busy();
        String before = Answers.of(y);
        for (Named each : undoable()) {
            if (!each.name().equals("goBack")) {
                each.call().accept(y);
                y.goBack(0);
                Shows.write(y, "n;t");
                check.sameText("all that is told, behind " + each.name(), Answers.of(y), before);
            }
        }
    }

    @Says(promise = 20, sentence = "Throws IllegalStateException if there is none")
    static void noSavedState(Check check) {
        check.badState("of a new show", SlideBonfire::new, s -> s.undo());
        check.badState("behind calls that save none", () -> {
            SlideBonfire x = new SlideBonfire();
            Shows.write(x, "n");
            x.keep(0);
            x.keep(1);
            return x;
        }, s -> s.undo());
        check.badState("behind as many calls as were undone", () -> {
            SlideBonfire x = new SlideBonfire();
            x.tick(1);
            x.undo();
            return x;
        }, s -> s.undo());
    }

    @Says(promise = 20, sentence = "Restores the latest saved state, and drops it.")
    static void restoresAndDrops(Check check) {
        for (Named each : undoable()) {
            SlideBonfire x = withOneSaved();
            Shows.write(x, "n");
            long digest = x.digest();
            String all = Answers.of(x);
            each.call().accept(x);
            check.yes(each.name() + " changes something", x.digest() != digest);
            x.undo();
            Shows.write(x, "n");
            check.sameText(each.name() + " is undone", Answers.of(x), all);
            check.same(each.name() + ", its saved state is dropped", x.savedStates(), 1);
        }
    }

    private static int[] accounts(SlideBonfire x) {
        return new int[] {x.time(), x.hits(), x.misses(), x.loads(), x.warmLoads(), x.burnings(), x.waited()};
    }

    /** Four slides of which three have room: with the pace all is counted again and again. */
    private static SlideBonfire counting() {
        SlideBonfire x = Shows.ofAlike(4, 50, 4, 1);
        Shows.programme(x, 0, 1, 2, 3, 3);
        x.changeGlow(20);
        x.changePace(3);
        x.goOn();
        x.tick(50);
        return x;
    }

    @Says(promise = 20, sentence = "Restores the latest saved state, and drops it.")
    static void restoresEachAccount(Check check) {
        SlideBonfire x = counting();
        int[] before = accounts(x);
        String all = Answers.of(x);
        x.keep(0);
        x.tick(100);
        int[] later = accounts(x);
        for (int i = 0; i < before.length; i++) {
            check.yes("account " + i + " goes on", later[i] > before[i]);
        }
        x.undo();
        check.sameText("undone", Answers.of(x), all);
        x.tick(100);
        check.same("goes on as before", x.time() + x.hits() + x.waited(), later[0] + later[1] + later[6]);
        x.goBack(0);
        check.sameText("the snapshot", Answers.of(x), all);
        Shows.write(x, "t100;t1;x");
        check.badArgument("not followed", () -> x.follow());
        x.clearBuffer();
        check.sameText("nothing is counted then", Answers.of(x), all);
    }

    @Says(promise = 19, sentence = "Goes back to a snapshot, which stays.")
    static void otherSlides(Check check) {
        SlideBonfire x = new SlideBonfire();
        x.addSlide(11, 12, 3);
        x.addSlide(14, 15, 6);
        x.keep(0);
        x.undo();
        x.undo();
        x.addSlide(27, 18, 9);
        x.keep(1);
        check.same("one slide", x.slides(), 1);
        x.goBack(0);
        check.same("two slides", x.slides(), 2);
        check.same("the first one", x.costOf(0) * 1000 + x.loadOf(0) * 10 + x.fadeOf(0), 11123);
        check.same("the second one", x.costOf(1) * 1000 + x.loadOf(1) * 10 + x.fadeOf(1), 14156);
        x.goBack(1);
        check.same("one slide again", x.slides(), 1);
        check.same("this one", x.costOf(0) * 1000 + x.loadOf(0) * 10 + x.fadeOf(0), 27189);
        x.undo();
        check.same("undone", x.costOf(0) * 1000 + x.loadOf(0) * 10 + x.fadeOf(0), 11123);
    }

    @Says(promise = 20, sentence = "all but the buffer, the slots and the saved states. At most 6 states are saved")
    static void undoLeavesTheBufferAndTheSlots(Check check) {
        SlideBonfire x = new SlideBonfire();
        x.tick(1);
        Shows.write(x, "n;n");
        x.keep(0);
        x.undo();
        check.same("the buffer stays", x.clearBuffer(), 3);
        x.goBack(0);
        check.same("the slot stays", x.time(), 1);
        x.undo();
        check.same("and goBack is undone", x.time(), 0);
    }

    @Says(promise = 21, sentence = "Each method that is marked \"undoable\" and does not throw an exception saves the state from "
        + "before it, also if it changes nothing")
    static void eachUndoableSaves(Check check) {
        for (Named each : undoable()) {
            SlideBonfire x = withOneSaved();
            each.call().accept(x);
            check.same(each.name(), x.savedStates(), 2);
        }
    }

    @Says(promise = 21, sentence = "also if it changes nothing")
    static void whatChangesNothingSaves(Check check) {
        List<Named> calls = List.of(new Named("changeMemory", x -> x.changeMemory(150)),
            new Named("changeAhead", x -> x.changeAhead(0)), new Named("changeOrder", x -> x.changeOrder(0)),
            new Named("changeGlow", x -> x.changeGlow(5)), new Named("changePace", x -> x.changePace(0)),
            new Named("goBack", x -> x.goBack(0)));
        for (Named each : calls) {
            SlideBonfire x = withOneSaved();
            String before = Answers.of(x);
            each.call().accept(x);
            check.sameText(each.name() + " changes nothing", Answers.of(x), before);
            check.same(each.name() + " saves", x.savedStates(), 2);
        }
    }

    @Says(promise = 21, sentence = "Each method that is marked \"undoable\" and does not throw an exception saves")
    static void othersSaveNone(Check check) {
        SlideBonfire x = withOneSaved();
        x.clearBuffer();
        x.append('t');
        x.firstError();
        x.keep(0);
        check.same("none is saved", x.savedStates(), 1);
    }

    @Says(promise = 21, sentence = "At most 6 states are saved; the oldest one is dropped first.")
    static void sixStates(Check check) {
        for (int calls : new int[] {5, 6, 7, 8, 13, 20}) {
            SlideBonfire x = new SlideBonfire();
            for (int i = 0; i < calls; i++) {
                x.tick(1);
            }
            int saved = Math.min(6, calls);
            check.same("behind " + calls + " calls", x.savedStates(), saved);
            for (int i = 1; i <= saved; i++) {
                x.undo();
                check.same("undone " + i + " of " + calls, x.time(), calls - i);
                check.same("saved then", x.savedStates(), saved - i);
            }
            check.badState("no more than that", x::undo);
        }
    }

    @Says(promise = 21, sentence = "Returns 0 to 6.")
    static void savedStates(Check check) {
        SlideBonfire x = new SlideBonfire();
        for (int i = 0; i <= 6; i++) {
            check.same("saved", x.savedStates(), i);
            x.tick(1);
        }
        check.same("the seventh one", x.savedStates(), 6);
    }

    @Says(promise = 17, sentence = "A call that throws an exception changes nothing (the buffer stays as it is, too).")
    static void refusedFollow(Check check) {
        for (String text : new String[] {"n;t5;p2;b2;a5;n;t100;b0", "a5;x", "t1;t1;t1;p9"}) {
            SlideBonfire x = Shows.busy();
            SlideBonfire twin = Shows.busy();
            Shows.write(x, text);
            Shows.write(twin, text);
            List<String> thrown = new ArrayList<>();
            try {
                x.follow();
            } catch (IllegalArgumentException | IllegalStateException e) {
                thrown.add(e.getClass().getSimpleName());
            }
            check.same(text + " is refused", thrown.size(), 1);
            check.same(text + ", the buffer and all", x.digest(), twin.digest());
            x.tick(9);
            twin.tick(9);
            check.sameText(text + ", later on", Answers.of(x), Answers.of(twin));
        }
    }

    @Says(promise = 21, sentence = "An object is used for at most 512 calls after it has been made")
    static void manyCalls(Check check) {
        SlideBonfire x = Shows.ofPlaces(24);
        for (int i = 25; i < 510; i++) {
            x.tick(100);
        }
        check.same("time", x.time(), 48500);
        check.same("saved", x.savedStates(), 6);
    }

    public static void main(String[] args) {
        Boundaries.run(StateBoundariesTest.class);
    }
}
