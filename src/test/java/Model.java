import java.util.ArrayList;
import java.util.Comparator;
import java.util.List;

/**
 * The document once more, written in the plainest way with the Java library: copies for all that would be,
 * sorting for the order of burning, and all texts of a part written out. It is compared with SlideBonfire.
 */
public final class Model {
    private static final class Slide {
        final int cost;
        final int load;
        final int fade;
        boolean loaded;
        int glow;
        int burnt;
        long used;

        Slide(int cost, int load, int fade) {
            this.cost = cost;
            this.load = load;
            this.fade = fade;
        }

        Slide copy() {
            Slide s = new Slide(cost, load, fade);
            s.loaded = loaded;
            s.glow = glow;
            s.burnt = burnt;
            s.used = used;
            return s;
        }
    }

    private static final class World {
        List<Slide> slides = new ArrayList<>();
        List<Integer> programme = new ArrayList<>();
        List<Integer> asked = new ArrayList<>();
        Integer showPlace;
        Integer shown;
        Integer fading;
        Integer awaited;
        Integer loading;
        int shownFor;
        int fadeLeft;
        int loadLeft;
        int taken;
        int memory = 150;
        int ahead = 1;
        int order = 0;
        int glow = 5;
        int pace = 0;
        int time;
        int hits;
        int misses;
        int loads;
        int warmLoads;
        int burnings;
        int waited;
        long moment;
        int shows;

        World copy() {
            World w = new World();
            for (Slide s : slides) {
                w.slides.add(s.copy());
            }
            w.programme.addAll(programme);
            w.asked.addAll(asked);
            w.showPlace = showPlace;
            w.shown = shown;
            w.fading = fading;
            w.awaited = awaited;
            w.loading = loading;
            w.shownFor = shownFor;
            w.fadeLeft = fadeLeft;
            w.loadLeft = loadLeft;
            w.taken = taken;
            w.memory = memory;
            w.ahead = ahead;
            w.order = order;
            w.glow = glow;
            w.pace = pace;
            w.time = time;
            w.hits = hits;
            w.misses = misses;
            w.loads = loads;
            w.warmLoads = warmLoads;
            w.burnings = burnings;
            w.waited = waited;
            w.moment = moment;
            w.shows = shows;
            return w;
        }

        boolean isOnShow(int s) {
            return (shown != null && shown == s) || (fading != null && fading == s);
        }

        int next(int steps) {
            int from = showPlace == null ? 0 : showPlace + 1;
            return programme.get((from + steps - 1) % programme.size());
        }

        int nextUse(int s) {
            for (int k = 1; k <= programme.size(); k++) {
                if (next(k) == s) {
                    return k;
                }
            }
            return 1000;
        }

        List<Integer> burnable() {
            List<Integer> all = new ArrayList<>();
            for (int s = 0; s < slides.size(); s++) {
                if (slides.get(s).loaded && !isOnShow(s)) {
                    all.add(s);
                }
            }
            Comparator<Integer> by;
            if (order == 0) {
                by = Comparator.comparingLong((Integer s) -> slides.get(s).used);
            } else if (order == 1) {
                by = Comparator.comparingLong((Integer s) -> -slides.get(s).cost);
            } else {
                by = Comparator.comparingLong((Integer s) -> -nextUse(s));
            }
            all.sort(by.thenComparing(Comparator.naturalOrder()));
            return all;
        }

        void burn(int s) {
            Slide slide = slides.get(s);
            slide.loaded = false;
            slide.glow = glow;
            slide.burnt++;
            burnings++;
            taken -= slide.cost;
        }

        void show(int s) {
            if (shown != null && shown != s) {
                int fade = slides.get(s).fade;
                fading = fade == 0 ? null : shown;
                fadeLeft = fade;
            }
            shown = s;
            shownFor = 0;
            awaited = null;
            slides.get(s).used = ++moment;
            shows++;
        }

        boolean goOn() {
            showPlace = showPlace == null || showPlace + 1 == programme.size() ? 0 : showPlace + 1;
            int s = programme.get(showPlace);
            if (slides.get(s).loaded) {
                hits++;
                show(s);
                return true;
            }
            misses++;
            awaited = s;
            asked.remove(Integer.valueOf(s));
            return false;
        }

        void begin() {
            if (loading != null) {
                return;
            }
            Integer which = null;
            if (awaited != null) {
                which = awaited;
            } else if (!asked.isEmpty()) {
                which = asked.remove(0);
            } else {
                for (int k = 1; k <= ahead && !programme.isEmpty() && which == null; k++) {
                    if (!slides.get(next(k)).loaded) {
                        which = next(k);
                    }
                }
                if (which != null && taken + slides.get(which).cost > memory) {
                    which = null;
                }
            }
            if (which == null) {
                return;
            }
            Slide slide = slides.get(which);
            while (taken + slide.cost > memory) {
                burn(burnable().get(0));
            }
            taken += slide.cost;
            loads++;
            loading = which;
            loadLeft = slide.load;
            if (slide.glow > 0) {
                warmLoads++;
                loadLeft = slide.load - slide.load / 2;
                slide.glow = 0;
            }
        }

        void tick() {
            time += 1;
            waited += awaited == null ? 0 : 1;
            for (Slide s : slides) {
                s.glow = Math.max(0, s.glow - 1);
            }
            if (fading != null && --fadeLeft == 0) {
                fading = null;
            }
            Integer shownBefore = shown;
            if (loading != null && --loadLeft == 0) {
                int s = loading;
                loading = null;
                slides.get(s).loaded = true;
                slides.get(s).used = ++moment;
                if (awaited != null && awaited == s) {
                    show(s);
                }
            }
            if (shown != null && shown.equals(shownBefore)) {
                shownFor++;
                if (pace > 0 && shownFor >= pace && awaited == null && !programme.isEmpty()) {
                    goOn();
                }
            }
            begin();
        }
    }

    private World w = new World();
    private final World[] slots = new World[2];
    private final List<World> saved = new ArrayList<>();
    private final StringBuilder buffer = new StringBuilder();

    private void save() {
        saved.add(w.copy());
        if (saved.size() > 6) {
            saved.remove(0);
        }
    }

    private static void arg(boolean ok) {
        if (!ok) {
            throw new IllegalArgumentException();
        }
    }

    private static void state(boolean ok) {
        if (!ok) {
            throw new IllegalStateException();
        }
    }

    private Slide slide(int slide) {
        if (slide < 0 || slide >= w.slides.size()) {
            throw new IndexOutOfBoundsException();
        }
        return w.slides.get(slide);
    }

    private void place(int place, int end) {
        if (place < 0 || place >= end) {
            throw new IndexOutOfBoundsException();
        }
    }

    private static int known(Integer value) {
        state(value != null);
        return value;
    }

    public int addSlide(int cost, int load, int fade) {
        arg(cost >= 1 && cost <= 50 && load >= 1 && load <= 20 && fade >= 0 && fade <= 10);
        state(w.slides.size() < 16);
        save();
        w.slides.add(new Slide(cost, load, fade));
        w.begin();
        return w.slides.size() - 1;
    }

    public int insert(int place, int slide) {
        place(place, w.programme.size() + 1);
        slide(slide);
        state(w.programme.size() < 24);
        save();
        w.programme.add(place, slide);
        if (w.showPlace != null && w.showPlace >= place) {
            w.showPlace++;
        }
        w.begin();
        return w.programme.size();
    }

    public int takeOut(int place) {
        place(place, w.programme.size());
        save();
        int slide = w.programme.remove(place);
        if (w.showPlace != null && w.showPlace >= place) {
            w.showPlace = w.showPlace == 0 ? null : w.showPlace - 1;
        }
        w.begin();
        return slide;
    }

    public boolean goOn() {
        state(!w.programme.isEmpty() && w.awaited == null);
        save();
        boolean atOnce = w.goOn();
        w.begin();
        return atOnce;
    }

    public int ask(int slide) {
        Slide s = slide(slide);
        state(!s.loaded && !(w.loading != null && w.loading == slide) && !(w.awaited != null && w.awaited == slide)
            && !w.asked.contains(slide));
        save();
        w.asked.add(slide);
        w.begin();
        return w.asked.size();
    }

    public int burn(int slide) {
        Slide s = slide(slide);
        state(s.loaded && !w.isOnShow(slide));
        save();
        w.burn(slide);
        w.begin();
        return s.cost;
    }

    public int tick(int ticks) {
        arg(ticks >= 1 && ticks <= 100);
        save();
        int before = w.shows;
        for (int i = 0; i < ticks; i++) {
            w.tick();
        }
        return w.shows - before;
    }

    public int changeMemory(int memory) {
        arg(memory >= 150 && memory <= 400);
        save();
        int before = w.memory;
        w.memory = memory;
        while (w.taken > memory) {
            w.burn(w.burnable().get(0));
        }
        w.begin();
        return before;
    }

    public int changeAhead(int places) {
        arg(places >= 0 && places <= 4);
        save();
        int before = w.ahead;
        w.ahead = places;
        w.begin();
        return before;
    }

    public int changeOrder(int order) {
        arg(order >= 0 && order <= 2);
        save();
        int before = w.order;
        w.order = order;
        return before;
    }

    public int changeGlow(int ticks) {
        arg(ticks >= 0 && ticks <= 20);
        save();
        int before = w.glow;
        w.glow = ticks;
        return before;
    }

    public int changePace(int ticks) {
        arg(ticks >= 0 && ticks <= 50);
        save();
        int before = w.pace;
        w.pace = ticks;
        return before;
    }

    public int append(int code) {
        arg(code >= 33 && code <= 126);
        state(buffer.length() < 60);
        buffer.append((char) code);
        return buffer.length();
    }

    public int clearBuffer() {
        int before = buffer.length();
        buffer.setLength(0);
        return before;
    }

    private static List<String> partTexts() {
        List<String> all = new ArrayList<>();
        all.add("n");
        for (int i = 0; i <= 15; i++) {
            all.add("a" + i);
            all.add("b" + i);
            all.add("p" + i);
        }
        for (int i = 1; i <= 100; i++) {
            all.add("t" + i);
        }
        return all;
    }

    private static final List<String> PARTS = partTexts();

    private static boolean begins(String text) {
        String[] parts = text.split(";", -1);
        for (int i = 0; i < parts.length; i++) {
            String part = parts[i];
            boolean last = i == parts.length - 1;
            if (PARTS.stream().noneMatch(p -> last ? p.startsWith(part) : p.equals(part))) {
                return false;
            }
        }
        return true;
    }

    public int firstError() {
        for (int i = 0; i < buffer.length(); i++) {
            if (!begins(buffer.substring(0, i + 1))) {
                return i;
            }
        }
        return buffer.length();
    }

    public int follow() {
        String[] parts = buffer.toString().split(";", -1);
        for (String part : parts) {
            arg(PARTS.contains(part));
        }
        World before = w;
        List<World> savedBefore = new ArrayList<>(saved);
        w = before.copy();
        boolean ok = true;
        for (int i = 0; i < parts.length && ok; i++) {
            ok = obeys(parts[i]);
        }
        World after = w;
        saved.clear();
        saved.addAll(savedBefore);
        w = before;
        state(ok);
        save();
        w = after;
        buffer.setLength(0);
        return parts.length;
    }

    private boolean obeys(String part) {
        int number = part.length() > 1 ? Integer.parseInt(part.substring(1)) : 0;
        try {
            switch (part.charAt(0)) {
                case 'n': goOn(); break;
                case 'a': ask(number); break;
                case 'b': burn(number); break;
                case 'p': insert(w.programme.size(), number); break;
                default: tick(number);
            }
            return true;
        } catch (RuntimeException e) {
            return false;
        }
    }

    public void keep(int slot) {
        arg(slot == 0 || slot == 1);
        slots[slot] = w.copy();
    }

    public void goBack(int slot) {
        arg(slot == 0 || slot == 1);
        state(slots[slot] != null);
        save();
        w = slots[slot].copy();
    }

    public void undo() {
        state(!saved.isEmpty());
        w = saved.remove(saved.size() - 1);
    }

    public int savedStates() {
        return saved.size();
    }

    public int slides() {
        return w.slides.size();
    }

    public int costOf(int slide) {
        return slide(slide).cost;
    }

    public int loadOf(int slide) {
        Slide s = slide(slide);
        return s.glow > 0 ? s.load - s.load / 2 : s.load;
    }

    public int fadeOf(int slide) {
        return slide(slide).fade;
    }

    public boolean isLoaded(int slide) {
        return slide(slide).loaded;
    }

    public boolean isOnShow(int slide) {
        slide(slide);
        return w.isOnShow(slide);
    }

    public int glowOf(int slide) {
        return slide(slide).glow;
    }

    public int burntTimes(int slide) {
        return slide(slide).burnt;
    }

    public int nextUse(int slide) {
        slide(slide);
        state(w.programme.contains(slide));
        return w.nextUse(slide);
    }

    public int burnPlace(int slide) {
        slide(slide);
        int place = w.burnable().indexOf(slide);
        state(place >= 0);
        return place;
    }

    public int places() {
        return w.programme.size();
    }

    public int slideAt(int place) {
        place(place, w.programme.size());
        return w.programme.get(place);
    }

    public int showPlace() {
        return known(w.showPlace);
    }

    public int shown() {
        return known(w.shown);
    }

    public int fading() {
        return known(w.fading);
    }

    public int fadeLeft() {
        return w.fading == null ? 0 : w.fadeLeft;
    }

    public int awaited() {
        return known(w.awaited);
    }

    public int shownFor() {
        known(w.shown);
        return w.shownFor;
    }

    public int loading() {
        return known(w.loading);
    }

    public int loadLeft() {
        return w.loading == null ? 0 : w.loadLeft;
    }

    public int asked() {
        return w.asked.size();
    }

    public int askedAt(int place) {
        place(place, w.asked.size());
        return w.asked.get(place);
    }

    public int takenBySlides() {
        int sum = 0;
        for (int s = 0; s < w.slides.size(); s++) {
            if (w.slides.get(s).loaded || (w.loading != null && w.loading == s)) {
                sum += w.slides.get(s).cost;
            }
        }
        return sum;
    }

    public int takenByAccount() {
        return w.taken;
    }

    public int memory() {
        return w.memory;
    }

    public int ahead() {
        return w.ahead;
    }

    public int order() {
        return w.order;
    }

    public int glow() {
        return w.glow;
    }

    public int pace() {
        return w.pace;
    }

    public int ticksToShowByTicks() {
        known(w.awaited);
        World copy = w.copy();
        int before = copy.shows;
        int ticks = 0;
        while (copy.shows == before) {
            copy.tick();
            ticks++;
        }
        return ticks;
    }

    /** By ticks here, too: that both are the same is what the document promises. */
    public int ticksToShowBySums() {
        return ticksToShowByTicks();
    }

    public int burningsFor(int slide) {
        Slide s = slide(slide);
        if (s.loaded || (w.loading != null && w.loading == slide)) {
            return 0;
        }
        World copy = w.copy();
        int burnt = 0;
        while (copy.taken + s.cost > copy.memory && !copy.burnable().isEmpty()) {
            copy.burn(copy.burnable().get(0));
            burnt++;
        }
        return burnt;
    }

    public int missesWith(int order) {
        arg(order >= 0 && order <= 2);
        state(!w.programme.isEmpty() && w.awaited == null);
        World copy = w.copy();
        copy.order = order;
        copy.pace = 0;
        for (int i = 0; i < w.programme.size(); i++) {
            copy.goOn();
            copy.begin();
            while (copy.awaited != null) {
                copy.tick();
            }
            for (int t = 0; t < 10; t++) {
                copy.tick();
            }
        }
        return copy.misses - w.misses;
    }

    public int bestOrder() {
        int best = 0;
        for (int order = 1; order < 3; order++) {
            if (missesWith(order) < missesWith(best)) {
                best = order;
            }
        }
        missesWith(best);
        return best;
    }

    public int time() {
        return w.time;
    }

    public int hits() {
        return w.hits;
    }

    public int misses() {
        return w.misses;
    }

    public int loads() {
        return w.loads;
    }

    public int warmLoads() {
        return w.warmLoads;
    }

    public int burnings() {
        return w.burnings;
    }

    public int waited() {
        return w.waited;
    }

    public double hitShare() {
        return w.hits + w.misses == 0 ? 0.0 : (double) w.hits / (w.hits + w.misses);
    }

    private interface Answer {
        long get();
    }

    private static long orZero(Answer answer, int more) {
        try {
            return answer.get() + more;
        } catch (RuntimeException e) {
            return 0;
        }
    }

    public long digest() {
        List<Long> v = new ArrayList<>();
        v.add((long) slides());
        for (int i = 0; i < slides(); i++) {
            int s = i;
            v.add((long) costOf(s));
            v.add((long) loadOf(s));
            v.add((long) fadeOf(s));
            v.add(isLoaded(s) ? 1L : 0L);
            v.add(isOnShow(s) ? 1L : 0L);
            v.add((long) glowOf(s));
            v.add((long) burntTimes(s));
            v.add(orZero(() -> nextUse(s), 0));
            v.add(orZero(() -> burnPlace(s), 1));
            v.add((long) burningsFor(s));
        }
        v.add((long) places());
        for (int p = 0; p < places(); p++) {
            v.add((long) slideAt(p));
        }
        v.add(orZero(this::showPlace, 1));
        v.add(orZero(this::shown, 1));
        v.add(orZero(this::fading, 1));
        v.add((long) fadeLeft());
        v.add(orZero(this::awaited, 1));
        v.add(orZero(this::shownFor, 0));
        v.add(orZero(this::loading, 1));
        v.add((long) loadLeft());
        v.add((long) asked());
        for (int p = 0; p < asked(); p++) {
            v.add((long) askedAt(p));
        }
        long[] plain = {takenBySlides(), takenByAccount(), memory(), ahead(), order(), glow(), pace(),
            orZero(this::ticksToShowByTicks, 0), orZero(this::ticksToShowBySums, 0), time(), hits(), misses(), loads(),
            warmLoads(), burnings(), waited(), savedStates(), Double.doubleToLongBits(hitShare()),
            slots[0] == null ? 0 : 1, slots[1] == null ? 0 : 1, buffer.length()};
        for (long value : plain) {
            v.add(value);
        }
        for (int i = 0; i < buffer.length(); i++) {
            v.add((long) buffer.charAt(i));
        }
        long hash = 4447;
        for (long value : v) {
            hash = 31 * hash + value;
        }
        return hash;
    }
}
