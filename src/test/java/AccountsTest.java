/** Promises 56 to 64: the accounts and the digest. */
public final class AccountsTest {
    private static final Check check = new Check();

    private static void accounts() {
        SlideBonfire x = Shows.ofHeavySlides(4);
        check.sameShare("63 without any", x.hitShare(), 0.0);
        x.goOn();
        x.tick(1);
        check.sameShare("63 only a miss", x.hitShare(), 0.0);
        Shows.load(x, 1, 2);
        x.goOn();
        x.goOn();
        check.same("56 time", x.time(), 3);
        check.same("57 hits", x.hits(), 2);
        check.same("58 misses", x.misses(), 1);
        check.sameShare("63 two of three", x.hitShare(), 2.0 / 3.0);
        check.same("59 loads", x.loads(), 3);
        check.same("61 burnings", x.burnings(), 0);
        check.same("62 waited", x.waited(), 1);
        x.goOn();
        check.same("59 the one that is being loaded among them", x.loads(), 4);
        check.same("61 burnt for it", x.burnings(), 1);
        check.same("60 not warm", x.warmLoads(), 0);
        x.tick(1);
        x.goOn();
        check.same("60 warm", x.warmLoads(), 1);
        check.same("61 burnings", x.burnings(), 2);
        x.tick(10);
        check.same("62 only while one is waited for", x.waited(), 3);
        check.same("56 time again", x.time(), 14);
        check.sameShare("63 two of five", x.hitShare(), 0.4);
    }

    private static void waitedBehindAnotherLoading() {
        SlideBonfire x = Shows.with(Shows.slide(10, 4, 0), Shows.slide(10, 3, 0));
        x.ask(0);
        x.insert(0, 1);
        x.goOn();
        x.tick(2);
        check.same("62 while another one is being loaded, too", x.waited(), 2);
        x.tick(10);
        check.same("62 until it is shown", x.waited(), 7);
    }

    private static void digestOfNew() {
        SlideBonfire x = new SlideBonfire();
        long due = Answers.hash(0, 0, 0, 0, 0, 0, 0, 0, 0, 0, 0, 0, 0, 150, 1, 0, 5, 0, 0, 0, 0, 0, 0, 0, 0, 0, 0, 0, 0, 0, 0, 0);
        check.same("64 new", x.digest(), due);
        check.same("64 nothing is changed", x.digest(), due);
    }

    /** Slide 0 is shown, 1 is waited for and 2 is asked for; 1 was burnt and is loaded again. */
    private static void digestOfMany() {
        SlideBonfire x = Shows.with(Shows.slide(50, 3, 2), Shows.slide(40, 7, 4), Shows.slide(30, 2, 0));
        x.changeAhead(0);
        Shows.load(x, 0, 1);
        Shows.programme(x, 0, 1);
        x.burn(1);
        x.goOn();
        x.goOn();
        x.ask(2);
        x.tick(1);
        x.keep(1);
        x.append('t');
        x.append('1');
        long due = Answers.hash(3,
            50, 3, 2, 1, 1, 0, 0, 1, 0, 0,
            40, 7, 4, 0, 0, 0, 1, 2, 0, 0,
            30, 2, 0, 0, 0, 0, 0, 0, 0, 0,
            2, 0, 1,
            2, 1, 0, 0, 2, 1, 2, 3, 1, 2,
            90, 90, 150, 0, 0, 5, 0,
            3, 3,
            11, 1, 1, 3, 1, 1, 1, 6,
            Double.doubleToLongBits(0.5), 0, 1, 2, 't', '1');
        check.same("64 of many", x.digest(), due);
    }

    private static void bitsOfShares() {
        SlideBonfire x = Shows.with(Shows.slide(1, 1, 0), Shows.slide(1, 1, 0));
        x.changeAhead(0);
        Shows.load(x, 0);
        Shows.programme(x, 0, 0, 0);
        SlideBonfire y = Shows.with(Shows.slide(1, 1, 0), Shows.slide(1, 1, 0));
        for (int i = 0; i < 40; i++) {
            x.goOn();
            if (i % 7 == 3) {
                x.insert(0, 1);
                x.takeOut(x.places() - 1);
                x.changeAhead(i % 2);
            }
            x.tick(2);
            check.sameShare("63 share", x.hitShare(), (double) x.hits() / (x.hits() + x.misses()));
            check.same("64 its bits", x.digest(), Answers.digest(x, "", false, false));
        }
        check.sameShare("63 none", y.hitShare(), 0.0);
    }

    public static void main(String[] args) {
        accounts();
        waitedBehindAnotherLoading();
        digestOfNew();
        digestOfMany();
        bitsOfShares();
        check.end();
    }
}
