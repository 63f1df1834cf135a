/** Shows that several tests begin with. */
final class Shows {
    private Shows() {
    }

    /** A show with slides, each told by cost, load and fade; nothing is in the programme. */
    static SlideBonfire with(int[]... slides) {
        SlideBonfire x = new SlideBonfire();
        for (int[] slide : slides) {
            x.addSlide(slide[0], slide[1], slide[2]);
        }
        return x;
    }

    static int[] slide(int cost, int load, int fade) {
        return new int[] {cost, load, fade};
    }

    /** So many slides of cost 50, each loaded in one tick, without fading, all of them in the programme in turn. */
    static SlideBonfire ofHeavySlides(int slides) {
        SlideBonfire x = new SlideBonfire();
        x.changeAhead(0);
        for (int i = 0; i < slides; i++) {
            x.addSlide(50, 1, 0);
            x.insert(i, i);
        }
        return x;
    }

    /** Slides 0 (cost 50, load 5, fade 3), 1 (50, 4, 0), 2 (50, 7, 10), 3 (40, 20, 2), in this order in the programme. */
    static SlideBonfire ofFour() {
        SlideBonfire x = with(slide(50, 5, 3), slide(50, 4, 0), slide(50, 7, 10), slide(40, 20, 2));
        for (int i = 0; i < 4; i++) {
            x.insert(i, i);
        }
        return x;
    }

    static void load(SlideBonfire x, int... slides) {
        for (int slide : slides) {
            x.ask(slide);
            x.tick(x.loadLeft());
        }
    }

    static void programme(SlideBonfire x, int... slides) {
        for (int slide : slides) {
            x.insert(x.places(), slide);
        }
    }

    static void write(SlideBonfire x, String text) {
        x.clearBuffer();
        for (char c : text.toCharArray()) {
            x.append(c);
        }
    }
}
