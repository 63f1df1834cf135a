/** Promises 57 to 64: accounts of nothing, of the first thing, and of what is just not counted; the digest of all that. */
public final class AccountBoundariesTest {

    @Says(promise = 57, sentence = "Returns how often the show went on to a slide that was loaded so far.")
    static void hits(Check check) {
        check.same("of a new show", new SlideBonfire().hits(), 0);
        SlideBonfire x = Shows.ofPlaces(1);
        x.goOn();
        x.tick(3);
        check.same("shown as its loading ends", x.hits(), 0);
        x.goOn();
        check.same("loaded", x.hits(), 1);
        x.changePace(1);
        x.tick(1);
        check.same("by the pace", x.hits(), 2);
    }

    @Says(promise = 58, sentence = "Returns how often the show went on to a slide that was not so far.")
    static void misses(Check check) {
        check.same("of a new show", new SlideBonfire().misses(), 0);
        SlideBonfire x = Shows.ofPlaces(1);
        x.ask(0);
        x.tick(2);
        x.goOn();
        check.same("with a tick of its loading left", x.misses(), 1);
        x.tick(1);
        x.goOn();
        check.same("with none left", x.misses(), 1);
        x = Shows.ofHeavySlides(2);
        Shows.load(x, 0);
        x.changePace(1);
        x.goOn();
        x.tick(1);
        check.same("by the pace", x.misses(), 1);
    }

    @Says(promise = 59, sentence = "Returns how many slides were loaded so far, the one that is being loaded among them.")
    static void loads(Check check) {
        check.same("of a new show", new SlideBonfire().loads(), 0);
        SlideBonfire x = Shows.ofAlike(3, 10, 2, 0);
        x.ask(0);
        check.same("being loaded", x.loads(), 1);
        x.ask(1);
        check.same("one that is asked for is not among them", x.loads(), 1);
        x.tick(1);
        check.same("with a tick left", x.loads(), 1);
        x.tick(1);
        check.same("the next one", x.loads(), 2);
        x.tick(2);
        check.same("no more", x.loads(), 2);
        x.burn(0);
        x.ask(0);
        check.same("the same one again", x.loads(), 3);
    }

    @Says(promise = 60, sentence = "Returns how many of these while their embers glowed.")
    static void warmLoads(Check check) {
        check.same("of a new show", new SlideBonfire().warmLoads(), 0);
        for (int glow = 0; glow <= 3; glow++) {
            SlideBonfire x = Shows.ofAlike(1, 10, 2, 0);
            x.changeGlow(glow);
            x.ask(0);
            check.same("never burnt", x.warmLoads(), 0);
            x.tick(2);
            x.burn(0);
            x.tick(2);
            x.ask(0);
            check.same("two ticks behind the burning, glow " + glow, x.warmLoads(), glow > 2 ? 1 : 0);
        }
    }

    @Says(promise = 62, sentence = "Returns how many ticks a slide was waited for so far.")
    static void waited(Check check) {
        SlideBonfire x = Shows.ofFirstWaited();
        for (int i = 0; i <= 3; i++) {
            check.same("ticks", x.waited(), i);
            x.tick(1);
        }
        check.same("it is shown by now", x.waited(), 3);
    }

    @Says(promise = 63, sentence = "Returns hits() as a double, divided by hits() and misses(), together; 0.0 without any.")
    static void hitShare(Check check) {
        check.sameShare("without any", new SlideBonfire().hitShare(), 0.0);
        SlideBonfire x = Shows.ofPlaces(1);
        x.goOn();
        check.sameShare("a miss", x.hitShare(), 0.0);
        x.tick(3);
        for (int hits = 1; hits <= 6; hits++) {
            x.goOn();
            check.sameShare("hits " + hits, x.hitShare(), (double) hits / (hits + 1));
        }
        x = Shows.ofPlaces(1);
        Shows.load(x, 0);
        x.goOn();
        check.sameShare("a hit", x.hitShare(), 1.0);
    }

    @Says(promise = 24, sentence = "divisions are rounded down, unless something else is told")
    static void roundedUpAsTold(Check check) {
        SlideBonfire x = Shows.ofAlike(1, 10, 13, 0);
        Shows.load(x, 0);
        x.burn(0);
        check.same("half of 13, told to be rounded up", x.loadOf(0), 7);
    }

    @Says(promise = 63, sentence = "All numbers are integers, but for a share")
    static void shareIsNoInteger(Check check) {
        SlideBonfire x = Shows.ofPlaces(1);
        x.goOn();
        x.tick(3);
        x.goOn();
        check.sameShare("one of two", x.hitShare(), 0.5);
    }

    @Says(promise = 64, sentence = "The hash starts at 4447.")
    static void digestOfANewShow(Check check) {
        long due = Answers.hash(0, 0, 0, 0, 0, 0, 0, 0, 0, 0, 0, 0, 0, 150, 1, 0, 5, 0, 0, 0, 0, 0, 0, 0, 0, 0, 0, 0, 0, 0, 0, 0);
        check.same("all that throws counts 0", new SlideBonfire().digest(), due);
    }

    @Says(promise = 64, sentence = "nextUse, 0 if it throws, burnPlace and 1, together, 0 if it throws, burningsFor")
    static void digestOfOneSlide(Check check) {
        SlideBonfire x = new SlideBonfire();
        x.addSlide(50, 20, 10);
        long due = Answers.hash(1, 50, 20, 10, 0, 0, 0, 0, 0, 0, 0, 0, 0, 0, 0, 0, 0, 0, 0, 0, 0, 0, 0, 150, 1, 0, 5, 0, 0, 0, 0, 0, 0, 0,
            0, 0, 0, 1, 0, 0, 0, 0);
        check.same("not in the programme, not loaded", x.digest(), due);
        x.insert(0, 0);
        due = Answers.hash(1, 50, 20, 10, 0, 0, 0, 0, 1, 0, 0, 1, 0, 0, 0, 0, 0, 0, 0, 1, 20, 0, 50, 50, 150, 1, 0, 5, 0, 0, 0, 0, 0, 0, 1,
            0, 0, 0, 2, 0, 0, 0, 0);
        check.same("in it, being loaded", x.digest(), due);
        x.tick(20);
        due = Answers.hash(1, 50, 20, 10, 1, 0, 0, 0, 1, 1, 0, 1, 0, 0, 0, 0, 0, 0, 0, 0, 0, 0, 50, 50, 150, 1, 0, 5, 0, 0, 0, 20, 0, 0, 1,
            0, 0, 0, 3, 0, 0, 0, 0);
        check.same("loaded, the first one to burn", x.digest(), due);
        x.goOn();
        due = Answers.hash(1, 50, 20, 10, 1, 1, 0, 0, 1, 0, 0, 1, 0, 1, 1, 0, 0, 0, 0, 0, 0, 0, 50, 50, 150, 1, 0, 5, 0, 0, 0, 20, 1, 0, 1,
            0, 0, 0, 4, Double.doubleToLongBits(1.0), 0, 0, 0);
        check.same("shown, the share is 1.0", x.digest(), due);
    }

    @Says(promise = 64, sentence = "for each slot 1 if it has a snapshot, otherwise 0; the length of the buffer and each of its "
        + "character codes")
    static void digestOfSlotsAndBuffer(Check check) {
        int[][] slots = {{}, {0}, {1}, {0, 1}};
        long[][] due = {{0, 0}, {1, 0}, {0, 1}, {1, 1}};
        for (int i = 0; i < slots.length; i++) {
            SlideBonfire x = new SlideBonfire();
            for (int slot : slots[i]) {
                x.keep(slot);
            }
            long[] values = new long[32 + 60];
            values[13] = 150;
            values[14] = 1;
            values[16] = 5;
            values[29] = due[i][0];
            values[30] = due[i][1];
            check.same("an empty buffer", x.digest(), Answers.hash(java.util.Arrays.copyOf(values, 32)));
            for (int length = 1; length <= 60; length++) {
                x.append(32 + length);
                values[31] = length;
                values[31 + length] = 32 + length;
                check.same("length " + length, x.digest(), Answers.hash(java.util.Arrays.copyOf(values, 32 + length)));
            }
        }
    }

    @Says(promise = 64, sentence = "For each value v of the following list, in order, the hash becomes 31 * hash + v, in long "
        + "arithmetic with overflow.")
    static void digestOfAllAnswers(Check check) {
        check.same("busy", Shows.busy().digest(), Answers.digest(Shows.busy(), "n;t", true, false));
        check.same("waiting", Shows.waiting().digest(), Answers.digest(Shows.waiting(), "n;t", true, false));
        SlideBonfire x = Shows.busy();
        x.tick(2);
        check.same("an ember glows for its last tick", x.glowOf(5), 1);
        check.same("with that ember", x.digest(), Answers.digest(x, "n;t", true, false));
        SlideBonfire full = Shows.ofAlike(16, 9, 20, 0);
        for (int i = 0; i < 16; i++) {
            full.ask(i);
        }
        for (int i = 0; i < 24; i++) {
            full.insert(i, 15 - i % 16);
        }
        check.same("all slides and places, and as many as may be asked for", full.digest(), Answers.digest(full, "", false, false));
    }

    @Says(promise = 64, sentence = "the bits of hitShare (as Double.doubleToLongBits)")
    static void digestOfShares(Check check) {
        for (int misses : new int[] {0, 1, 2, 3, 6, 11, 15}) {
            for (int hits : new int[] {0, 1, 2, 3, 7, 20}) {
                SlideBonfire x = withShare(hits, misses);
                double share = hits + misses == 0 ? 0.0 : (double) hits / (hits + misses);
                check.sameShare(hits + " hits, " + misses + " misses", x.hitShare(), share);
                check.same(hits + " hits, " + misses + " misses, digest()", x.digest(), Answers.digest(x, "", false, false));
            }
        }
    }

    /** So many places are missed, then one is hit so often. */
    private static SlideBonfire withShare(int hits, int misses) {
        SlideBonfire x = Shows.ofHeavySlides(misses + 1);
        for (int i = 0; i < misses; i++) {
            x.goOn();
            x.tick(1);
        }
        Shows.load(x, misses);
        while (x.places() > 1) {
            x.takeOut(0);
        }
        for (int i = 0; i < hits; i++) {
            x.goOn();
        }
        return x;
    }

    public static void main(String[] args) {
        Boundaries.run(AccountBoundariesTest.class);
    }
}
