/** Shows that several tests begin with. */
final class Shows {
    private Shows() {
    }

    /** A show with slides, each told by cost, load and fade; nothing is in the programme. */
    static SlideBonfire with(int[]... slides) {
        SlideBonfire x = new SlideBonfire();
        for (int[] slide : slides) {
            x.addSlide(slide[0], slide[1], slide[2]);
        }
        return x;
    }

    static int[] slide(int cost, int load, int fade) {
        return new int[] {cost, load, fade};
    }

    /** So many slides of cost 50, each loaded in one tick, without fading, all of them in the programme in turn. */
    static SlideBonfire ofHeavySlides(int slides) {
        SlideBonfire x = new SlideBonfire();
        x.changeAhead(0);
        for (int i = 0; i < slides; i++) {
            x.addSlide(50, 1, 0);
            x.insert(i, i);
        }
        return x;
    }

    /** Slides 0 (cost 50, load 5, fade 3), 1 (50, 4, 0), 2 (50, 7, 10), 3 (40, 20, 2), in this order in the programme. */
    static SlideBonfire ofFour() {
        SlideBonfire x = with(slide(50, 5, 3), slide(50, 4, 0), slide(50, 7, 10), slide(40, 20, 2));
        for (int i = 0; i < 4; i++) {
            x.insert(i, i);
        }
        return x;
    }

    static void load(SlideBonfire x, int... slides) {
        for (int slide : slides) {
            x.ask(slide);
            x.tick(x.loadLeft());
        }
    }

    static void programme(SlideBonfire x, int... slides) {
        for (int slide : slides) {
            x.insert(x.places(), slide);
        }
    }

    static void write(SlideBonfire x, String text) {
        x.clearBuffer();
        for (char c : text.toCharArray()) {
            x.append(c);
        }
    }

    /**
     * A show in which all goes on at once: slide 0 is shown, 1 fades out, 2 is loaded, 3 is being loaded, 4 is asked for,
     * and the ember of 5 glows; the slot 0 has a snapshot, six states are saved, and the buffer has a text.
     */
    static SlideBonfire busy() {
        SlideBonfire x = with(slide(30, 4, 6), slide(30, 4, 6), slide(20, 4, 0), slide(20, 8, 0), slide(10, 5, 0),
            slide(10, 3, 0));
        x.changeAhead(0);
        load(x, 0, 1, 2, 5);
        programme(x, 1, 0, 3);
        x.goOn();
        x.goOn();
        x.ask(3);
        x.ask(4);
        x.burn(5);
        x.tick(2);
        x.keep(0);
        write(x, "n;t");
        return x;
    }

    /** The same, but slide 3, which is being loaded, is waited for. */
    static SlideBonfire waiting() {
        SlideBonfire x = busy();
        x.goOn();
        return x;
    }

    /** So many slides alike, none of which is in the programme. */
    static SlideBonfire ofAlike(int slides, int cost, int load, int fade) {
        SlideBonfire x = new SlideBonfire();
        for (int i = 0; i < slides; i++) {
            x.addSlide(cost, load, fade);
        }
        return x;
    }

    /** One slide at so many places; it is not loaded, and nothing is loaded in good time. */
    static SlideBonfire ofPlaces(int places) {
        SlideBonfire x = ofAlike(1, 10, 3, 0);
        x.changeAhead(0);
        for (int i = 0; i < places; i++) {
            x.insert(i, 0);
        }
        return x;
    }

    /** Nothing was shown yet; slide 0 is waited for, and is being loaded for three ticks. */
    static SlideBonfire ofFirstWaited() {
        SlideBonfire x = ofPlaces(1);
        x.goOn();
        return x;
    }

    /** The same, three ticks later: slide 0, the only one of the programme, is shown. */
    static SlideBonfire ofFirstShown() {
        SlideBonfire x = ofFirstWaited();
        x.tick(3);
        return x;
    }
}
