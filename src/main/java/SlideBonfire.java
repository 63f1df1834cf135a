/**
 * A crossfade show of slides that are loaded into a memory and burnt when it is full.
 * The promises that it keeps are told in ../shared/DOC.md.
 */
public final class SlideBonfire {
    private static final int MOST_SLIDES = 16;
    private static final int MOST_COST = 50;
    private static final int MOST_LOAD = 20;
    private static final int MOST_FADE = 10;
    private static final int MOST_PLACES = 24;
    private static final int MOST_TICKS = 100;
    private static final int LEAST_MEMORY = 150;
    private static final int MOST_MEMORY = 400;
    private static final int MOST_AHEAD = 4;
    private static final int ORDERS = 3;
    private static final int LONGEST_AGO = 0;
    private static final int LATEST_NEXT = 2;
    private static final int MOST_GLOW = 20;
    private static final int MOST_PACE = 50;
    private static final int FIRST_CODE = 33;
    private static final int LAST_CODE = 126;
    private static final int MOST_CODES = 60;
    private static final int SLOTS = 2;
    private static final int MOST_SAVED = 6;
    private static final int NONE = -1;
    // Two whole loadings are the longest wait; the bound stands far above them.
    private static final int LONGEST_WAIT = 1000;
    private static final int TICKS_BETWEEN_PLACES = 10;
    private static final long FIRST_HASH = 4447L;
    private static final int ONES_EXPONENT = 1023;
    private static final int FRACTION_BITS = 52;

    private final Bonfire now;
    private final Bonfire trial;
    private final Shelf saved;
    private final Bonfire[] kept;
    private final boolean[] isKept;
    private final Text buffer;

    public SlideBonfire() {
        now = new Bonfire();
        trial = new Bonfire();
        saved = new Shelf();
        kept = new Bonfire[SLOTS];
        for (int i = 0; i < kept.length; i++) {
            kept[i] = new Bonfire();
        }
        isKept = new boolean[SLOTS];
        buffer = new Text();
    }

    // ---- slides, the programme

    public int addSlide(int cost, int load, int fade) throws IllegalArgumentException, IllegalStateException {
        needArgument(isWithin(cost, 1, MOST_COST) && isWithin(load, 1, MOST_LOAD) && isWithin(fade, 0, MOST_FADE));
        needState(now.slides.count < MOST_SLIDES);
        saved.push(now);
        int slide = now.slides.add(cost, load, fade);
        now.beginLoading();
        return slide;
    }

    public int insert(int place, int slide) throws IndexOutOfBoundsException, IllegalStateException {
        needIndex(isWithin(place, 0, now.programme.count) && now.slides.has(slide));
        needState(now.programme.count < MOST_PLACES);
        saved.push(now);
        now.programme.put(place, slide);
        now.beginLoading();
        return now.programme.count;
    }

    public int takeOut(int place) throws IndexOutOfBoundsException {
        needIndex(now.programme.has(place));
        saved.push(now);
        int slide = now.programme.remove(place);
        now.beginLoading();
        return slide;
    }

    // ---- the show

    public boolean goOn() throws IllegalStateException {
        needState(now.mayGoOn());
        saved.push(now);
        boolean atOnce = now.proceed();
        now.beginLoading();
        return atOnce;
    }

    public int ask(int slide) throws IndexOutOfBoundsException, IllegalStateException {
        needIndex(now.slides.has(slide));
        needState(now.mayAsk(slide));
        saved.push(now);
        now.loader.queue(slide);
        now.beginLoading();
        return now.loader.queued;
    }

    public int burn(int slide) throws IndexOutOfBoundsException, IllegalStateException {
        needIndex(now.slides.has(slide));
        needState(now.mayBurn(slide));
        saved.push(now);
        now.putOnFire(slide);
        now.beginLoading();
        return at(now.slides.cost, slide);
    }

    public int tick(int ticks) throws IllegalArgumentException {
        needArgument(isWithin(ticks, 1, MOST_TICKS));
        saved.push(now);
        return now.passTicks(ticks);
    }

    // ---- settings

    public int changeMemory(int memory) throws IllegalArgumentException {
        needArgument(isWithin(memory, LEAST_MEMORY, MOST_MEMORY));
        saved.push(now);
        int before = now.settings.memory;
        now.settings.memory = memory;
        now.burnDownTo(memory);
        now.beginLoading();
        return before;
    }

    public int changeAhead(int places) throws IllegalArgumentException {
        needArgument(isWithin(places, 0, MOST_AHEAD));
        saved.push(now);
        int before = now.settings.ahead;
        now.settings.ahead = places;
        now.beginLoading();
        return before;
    }

    public int changeOrder(int order) throws IllegalArgumentException {
        needArgument(isWithin(order, 0, ORDERS - 1));
        saved.push(now);
        int before = now.settings.order;
        now.settings.order = order;
        now.beginLoading();
        return before;
    }

    public int changeGlow(int ticks) throws IllegalArgumentException {
        needArgument(isWithin(ticks, 0, MOST_GLOW));
        saved.push(now);
        int before = now.settings.glow;
        now.settings.glow = ticks;
        now.beginLoading();
        return before;
    }

    public int changePace(int ticks) throws IllegalArgumentException {
        needArgument(isWithin(ticks, 0, MOST_PACE));
        saved.push(now);
        int before = now.settings.pace;
        now.settings.pace = ticks;
        now.beginLoading();
        return before;
    }

    // ---- texts

    public int append(int code) throws IllegalArgumentException, IllegalStateException {
        needArgument(isWithin(code, FIRST_CODE, LAST_CODE));
        needState(buffer.length < MOST_CODES);
        buffer.add(code);
        return buffer.length;
    }

    public int clearBuffer() {
        int before = buffer.length;
        buffer.length = 0;
        return before;
    }

    public int firstError() {
        return buffer.readToError();
    }

    public int follow() throws IllegalArgumentException, IllegalStateException {
        needArgument(buffer.tellsOrders());
        trial.copyFrom(now);
        buffer.startReading();
        int orders = 0;
        while (orders < MOST_CODES && buffer.readPart()) {
            needState(trial.obey(buffer.letter, buffer.number));
            orders++;
        }
        saved.push(now);
        now.copyFrom(trial);
        buffer.length = 0;
        return orders;
    }

    // ---- snapshots, undo

    public void keep(int slot) throws IllegalArgumentException {
        needArgument(isWithin(slot, 0, SLOTS - 1));
        if (slot >= 0 && slot < kept.length && slot < isKept.length && kept[slot] != null) {
            kept[slot].copyFrom(now);
            isKept[slot] = true;
        }
    }

    public void goBack(int slot) throws IllegalArgumentException, IllegalStateException {
        needArgument(isWithin(slot, 0, SLOTS - 1));
        needState(hasSnapshot(slot));
        saved.push(now);
        if (slot >= 0 && slot < kept.length && kept[slot] != null) {
            now.copyFrom(kept[slot]);
        }
    }

    public void undo() throws IllegalStateException {
        needState(saved.count > 0);
        saved.popInto(now);
    }

    public int savedStates() {
        return saved.count;
    }

    // ---- slides as they are

    public int slides() {
        return now.slides.count;
    }

    public int costOf(int slide) throws IndexOutOfBoundsException {
        needIndex(now.slides.has(slide));
        return at(now.slides.cost, slide);
    }

    public int loadOf(int slide) throws IndexOutOfBoundsException {
        needIndex(now.slides.has(slide));
        return now.slides.ticksToLoad(slide, 0);
    }

    public int fadeOf(int slide) throws IndexOutOfBoundsException {
        needIndex(now.slides.has(slide));
        return at(now.slides.fade, slide);
    }

    public boolean isLoaded(int slide) throws IndexOutOfBoundsException {
        needIndex(now.slides.has(slide));
        return now.slides.isReady(slide);
    }

    public boolean isOnShow(int slide) throws IndexOutOfBoundsException {
        needIndex(now.slides.has(slide));
        return now.stage.bears(slide);
    }

    public int glowOf(int slide) throws IndexOutOfBoundsException {
        needIndex(now.slides.has(slide));
        return at(now.slides.ember, slide);
    }

    public int burntTimes(int slide) throws IndexOutOfBoundsException {
        needIndex(now.slides.has(slide));
        return at(now.slides.burnt, slide);
    }

    public int nextUse(int slide) throws IndexOutOfBoundsException, IllegalStateException {
        needIndex(now.slides.has(slide));
        int places = now.programme.placesUntil(slide);
        needState(places > 0);
        return places;
    }

    public int burnPlace(int slide) throws IndexOutOfBoundsException, IllegalStateException {
        needIndex(now.slides.has(slide));
        int place = now.placeInLine(slide);
        needState(place != NONE);
        return place;
    }

    // ---- the programme, the show

    public int places() {
        return now.programme.count;
    }

    public int slideAt(int place) throws IndexOutOfBoundsException {
        needIndex(now.programme.has(place));
        return at(now.programme.row, place);
    }

    public int showPlace() throws IllegalStateException {
        needState(now.programme.place != NONE);
        return now.programme.place;
    }

    public int shown() throws IllegalStateException {
        needState(now.stage.shown != NONE);
        return now.stage.shown;
    }

    public int fading() throws IllegalStateException {
        needState(now.stage.fading != NONE);
        return now.stage.fading;
    }

    public int fadeLeft() {
        return now.stage.fadeLeft;
    }

    public int awaited() throws IllegalStateException {
        needState(now.stage.awaited != NONE);
        return now.stage.awaited;
    }

    public int shownFor() throws IllegalStateException {
        needState(now.stage.shown != NONE);
        return now.stage.shownFor;
    }

    // ---- loading

    public int loading() throws IllegalStateException {
        needState(now.loader.slide != NONE);
        return now.loader.slide;
    }

    public int loadLeft() {
        return now.loader.left;
    }

    public int asked() {
        return now.loader.queued;
    }

    public int askedAt(int place) throws IndexOutOfBoundsException {
        needIndex(isWithin(place, 0, now.loader.queued - 1));
        return at(now.loader.row, place);
    }

    public int takenBySlides() {
        return now.sumOfCosts();
    }

    public int takenByAccount() {
        return now.loader.taken;
    }

    public int memory() {
        return now.settings.memory;
    }

    public int ahead() {
        return now.settings.ahead;
    }

    public int order() {
        return now.settings.order;
    }

    public int glow() {
        return now.settings.glow;
    }

    public int pace() {
        return now.settings.pace;
    }

    // ---- what would be

    public int ticksToShowByTicks() throws IllegalStateException {
        needState(now.stage.awaited != NONE);
        return waitOnTrial();
    }

    public int ticksToShowBySums() throws IllegalStateException {
        needState(now.stage.awaited != NONE);
        return now.sumOfWait();
    }

    public int burningsFor(int slide) throws IndexOutOfBoundsException {
        needIndex(now.slides.has(slide));
        return now.burningsToLoad(slide);
    }

    public int missesWith(int order) throws IllegalArgumentException, IllegalStateException {
        needArgument(isWithin(order, 0, ORDERS - 1));
        needState(now.mayGoOn());
        return missesOnTrial(order);
    }

    public int bestOrder() throws IllegalStateException {
        needState(now.mayGoOn());
        int best = 0;
        int fewest = missesOnTrial(best);
        for (int order = 1; order < ORDERS; order++) {
            int missed = missesOnTrial(order);
            if (missed < fewest) {
                best = order;
                fewest = missed;
            }
        }
        return best;
    }

    // ---- accounts

    public int time() {
        return now.accounts.time;
    }

    public int hits() {
        return now.accounts.hits;
    }

    public int misses() {
        return now.accounts.misses;
    }

    public int loads() {
        return now.accounts.loads;
    }

    public int warmLoads() {
        return now.accounts.warmLoads;
    }

    public int burnings() {
        return now.accounts.burnings;
    }

    public int waited() {
        return now.accounts.waited;
    }

    public double hitShare() {
        return now.accounts.shareOfHits();
    }

    public long digest() {
        long hash = mix(FIRST_HASH, now.slides.count);
        for (int slide = 0; slide < now.slides.count; slide++) {
            hash = mixSlide(hash, slide);
        }
        hash = mixProgramme(hash);
        hash = mixLoading(hash);
        boolean waits = now.stage.awaited != NONE;
        hash = mix(hash, waits ? waitOnTrial() : 0);
        hash = mix(hash, waits ? now.sumOfWait() : 0);
        hash = mixAccounts(hash);
        for (int slot = 0; slot < SLOTS; slot++) {
            hash = mix(hash, hasSnapshot(slot) ? 1 : 0);
        }
        hash = mix(hash, buffer.length);
        for (int i = 0; i < buffer.length; i++) {
            hash = mix(hash, at(buffer.codes, i));
        }
        return hash;
    }

    // ---- parts of the digest

    private static long mix(long hash, long value) {
        return 31L * hash + value;
    }

    private long mixSlide(long before, int slide) {
        long hash = mix(before, at(now.slides.cost, slide));
        hash = mix(hash, now.slides.ticksToLoad(slide, 0));
        hash = mix(hash, at(now.slides.fade, slide));
        hash = mix(hash, now.slides.isReady(slide) ? 1 : 0);
        hash = mix(hash, now.stage.bears(slide) ? 1 : 0);
        hash = mix(hash, at(now.slides.ember, slide));
        hash = mix(hash, at(now.slides.burnt, slide));
        hash = mix(hash, now.programme.placesUntil(slide));
        hash = mix(hash, now.placeInLine(slide) + 1);
        return mix(hash, now.burningsToLoad(slide));
    }

    private long mixProgramme(long before) {
        long hash = mix(before, now.programme.count);
        for (int place = 0; place < now.programme.count; place++) {
            hash = mix(hash, at(now.programme.row, place));
        }
        hash = mix(hash, now.programme.place + 1);
        hash = mix(hash, now.stage.shown + 1);
        hash = mix(hash, now.stage.fading + 1);
        hash = mix(hash, now.stage.fadeLeft);
        hash = mix(hash, now.stage.awaited + 1);
        return mix(hash, now.stage.shownFor);
    }

    private long mixLoading(long before) {
        long hash = mix(before, now.loader.slide + 1);
        hash = mix(hash, now.loader.left);
        hash = mix(hash, now.loader.queued);
        for (int place = 0; place < now.loader.queued; place++) {
            hash = mix(hash, at(now.loader.row, place));
        }
        hash = mix(hash, now.sumOfCosts());
        hash = mix(hash, now.loader.taken);
        hash = mix(hash, now.settings.memory);
        hash = mix(hash, now.settings.ahead);
        hash = mix(hash, now.settings.order);
        hash = mix(hash, now.settings.glow);
        return mix(hash, now.settings.pace);
    }

    private long mixAccounts(long before) {
        long hash = mix(before, now.accounts.time);
        hash = mix(hash, now.accounts.hits);
        hash = mix(hash, now.accounts.misses);
        hash = mix(hash, now.accounts.loads);
        hash = mix(hash, now.accounts.warmLoads);
        hash = mix(hash, now.accounts.burnings);
        hash = mix(hash, now.accounts.waited);
        hash = mix(hash, saved.count);
        return mix(hash, bitsOfShare(now.accounts.shareOfHits()));
    }

    // The library's own way to a double's bits is not at hand, so those of a share, 0 to 1, are put together here.
    private static long bitsOfShare(double share) {
        if (!(share > 0.0)) {
            return 0L;
        }
        double scaled = share;
        int exponent = ONES_EXPONENT;
        while (scaled < 1.0 && exponent > 1) {
            scaled = scaled * 2.0;
            exponent--;
        }
        long fraction = (long) ((scaled - 1.0) * (double) (1L << FRACTION_BITS));
        return ((long) exponent << FRACTION_BITS) + fraction;
    }

    // ---- what is tried on a copy

    private int waitOnTrial() {
        trial.copyFrom(now);
        for (int ticks = 1; ticks < LONGEST_WAIT; ticks++) {
            if (trial.passTick() > 0) {
                return ticks;
            }
        }
        return LONGEST_WAIT;
    }

    private int missesOnTrial(int order) {
        trial.copyFrom(now);
        trial.settings.order = order;
        trial.settings.pace = 0;
        int missed = 0;
        for (int places = 0; places < now.programme.count; places++) {
            if (!trial.proceed()) {
                missed++;
            }
            trial.beginLoading();
            for (int ticks = 0; trial.stage.awaited != NONE && ticks < LONGEST_WAIT; ticks++) {
                trial.passTick();
            }
            for (int ticks = 0; ticks < TICKS_BETWEEN_PLACES; ticks++) {
                trial.passTick();
            }
        }
        return missed;
    }

    private boolean hasSnapshot(int slot) {
        return slot >= 0 && slot < isKept.length && isKept[slot];
    }

    // ---- what calls need

    private static void needArgument(boolean holds) {
        if (!holds) {
            throw new IllegalArgumentException();
        }
    }

    private static void needIndex(boolean holds) {
        if (!holds) {
            throw new IndexOutOfBoundsException();
        }
    }

    private static void needState(boolean holds) {
        if (!holds) {
            throw new IllegalStateException();
        }
    }

    private static boolean isWithin(int value, int least, int most) {
        return value >= least && value <= most;
    }

    // ---- rows

    private static int at(int[] row, int place) {
        return place >= 0 && place < row.length ? row[place] : 0;
    }

    private static void set(int[] row, int place, int value) {
        if (place >= 0 && place < row.length) {
            row[place] = value;
        }
    }

    private static void copyRow(int[] from, int[] to) {
        for (int i = 0; i < from.length && i < to.length; i++) {
            to[i] = from[i];
        }
    }

    /** The slides, each with what it is and what has become of it. */
    private static final class Slides {
        int count;
        final int[] cost = new int[MOST_SLIDES];
        final int[] load = new int[MOST_SLIDES];
        final int[] fade = new int[MOST_SLIDES];
        final boolean[] ready = new boolean[MOST_SLIDES];
        final int[] ember = new int[MOST_SLIDES];
        final int[] burnt = new int[MOST_SLIDES];
        final int[] usedAt = new int[MOST_SLIDES];
        int uses;

        void copyFrom(Slides other) {
            count = other.count;
            copyRow(other.cost, cost);
            copyRow(other.load, load);
            copyRow(other.fade, fade);
            copyRow(other.ember, ember);
            copyRow(other.burnt, burnt);
            copyRow(other.usedAt, usedAt);
            for (int i = 0; i < ready.length && i < other.ready.length; i++) {
                ready[i] = other.ready[i];
            }
            uses = other.uses;
        }

        boolean has(int slide) {
            return slide >= 0 && slide < count;
        }

        boolean isReady(int slide) {
            return slide >= 0 && slide < ready.length && ready[slide];
        }

        void setReady(int slide, boolean isSo) {
            if (slide >= 0 && slide < ready.length) {
                ready[slide] = isSo;
            }
        }

        // The other rows hold nothing behind the last slide, in this state and in each that is copied into it.
        int add(int newCost, int newLoad, int newFade) {
            int slide = count;
            set(cost, slide, newCost);
            set(load, slide, newLoad);
            set(fade, slide, newFade);
            count++;
            return slide;
        }

        /** How many ticks the slide's loading takes, if it begins when so many ticks have gone by. */
        int ticksToLoad(int slide, int ticksUntilThen) {
            int ticks = at(load, slide);
            return at(ember, slide) > ticksUntilThen ? (ticks + 1) / 2 : ticks;
        }

        void use(int slide) {
            uses++;
            set(usedAt, slide, uses);
        }

        void coolEmbers() {
            for (int i = 0; i < count && i < ember.length; i++) {
                if (ember[i] > 0) {
                    ember[i]--;
                }
            }
        }
    }

    /** The places with slides, and the place of the show, NONE if there is none. */
    private static final class Programme {
        int count;
        int place = NONE;
        final int[] row = new int[MOST_PLACES];

        void copyFrom(Programme other) {
            count = other.count;
            place = other.place;
            copyRow(other.row, row);
        }

        boolean has(int somePlace) {
            return somePlace >= 0 && somePlace < count;
        }

        void put(int newPlace, int slide) {
            for (int i = count; i > newPlace; i--) {
                set(row, i, at(row, i - 1));
            }
            set(row, newPlace, slide);
            count++;
            if (newPlace <= place) {
                place++;
            }
        }

        int remove(int oldPlace) {
            int slide = at(row, oldPlace);
            for (int i = oldPlace; i + 1 < count; i++) {
                set(row, i, at(row, i + 1));
            }
            count--;
            if (oldPlace <= place) {
                place--;
            }
            return slide;
        }

        /** Moves the place of the show to the next one, and gives the slide there. */
        int advance() {
            place = place + 1 < count ? place + 1 : 0;
            return at(row, place);
        }

        int slideAhead(int places) {
            if (count <= 0) {
                return NONE;
            }
            int there = (place + places) % count;
            return there >= 0 && there < row.length ? row[there] : NONE;
        }

        /** How many places ahead the slide comes next, 0 if never. */
        int placesUntil(int slide) {
            for (int places = 1; places <= count; places++) {
                if (slideAhead(places) == slide) {
                    return places;
                }
            }
            return 0;
        }
    }

    /** What is shown, fades out, and is waited for, NONE for nothing. */
    private static final class Stage {
        int shown = NONE;
        int shownFor;
        int fading = NONE;
        int fadeLeft;
        int awaited = NONE;

        void copyFrom(Stage other) {
            shown = other.shown;
            shownFor = other.shownFor;
            fading = other.fading;
            fadeLeft = other.fadeLeft;
            awaited = other.awaited;
        }

        boolean bears(int slide) {
            return slide == shown || slide == fading;
        }

        void bring(int slide, int fade) {
            if (slide != shown) {
                fading = fade > 0 ? shown : NONE;
                fadeLeft = fading != NONE ? fade : 0;
            }
            shown = slide;
            shownFor = 0;
            awaited = NONE;
        }

        void fadeOnce() {
            if (fadeLeft > 0) {
                fadeLeft--;
            }
            if (fadeLeft == 0) {
                fading = NONE;
            }
        }

        void countShown() {
            if (shown != NONE) {
                shownFor++;
            }
        }
    }

    /** What is being loaded, NONE for nothing, what was asked for, and the memory taken. */
    private static final class Loader {
        int slide = NONE;
        int left;
        int queued;
        final int[] row = new int[MOST_SLIDES];
        int taken;

        void copyFrom(Loader other) {
            slide = other.slide;
            left = other.left;
            queued = other.queued;
            copyRow(other.row, row);
            taken = other.taken;
        }

        int queuePlace(int someSlide) {
            for (int i = 0; i < queued; i++) {
                if (at(row, i) == someSlide) {
                    return i;
                }
            }
            return NONE;
        }

        void queue(int newSlide) {
            set(row, queued, newSlide);
            queued++;
        }

        void unqueue(int place) {
            for (int i = place; i + 1 < queued; i++) {
                set(row, i, at(row, i + 1));
            }
            queued--;
        }
    }

    /** What can be changed by settings. */
    private static final class Settings {
        int memory = LEAST_MEMORY;
        int ahead = 1;
        int order;
        int glow = 5;
        int pace;

        void copyFrom(Settings other) {
            memory = other.memory;
            ahead = other.ahead;
            order = other.order;
            glow = other.glow;
            pace = other.pace;
        }
    }

    /** What is counted. */
    private static final class Accounts {
        int time;
        int hits;
        int misses;
        int loads;
        int warmLoads;
        int burnings;
        int waited;

        void copyFrom(Accounts other) {
            time = other.time;
            hits = other.hits;
            misses = other.misses;
            loads = other.loads;
            warmLoads = other.warmLoads;
            burnings = other.burnings;
            waited = other.waited;
        }

        double shareOfHits() {
            int all = hits + misses;
            return all > 0 ? (double) hits / (double) all : 0.0;
        }
    }

    /** All of a show but the buffer, the slots and the saved states. */
    private static final class Bonfire {
        final Slides slides = new Slides();
        final Programme programme = new Programme();
        final Stage stage = new Stage();
        final Loader loader = new Loader();
        final Settings settings = new Settings();
        final Accounts accounts = new Accounts();
        // Both rows are filled anew each time they are needed, and so are not copied.
        final int[] weight = new int[MOST_SLIDES];
        final int[] line = new int[MOST_SLIDES];

        void copyFrom(Bonfire other) {
            slides.copyFrom(other.slides);
            programme.copyFrom(other.programme);
            stage.copyFrom(other.stage);
            loader.copyFrom(other.loader);
            settings.copyFrom(other.settings);
            accounts.copyFrom(other.accounts);
        }

        boolean mayGoOn() {
            return programme.count > 0 && stage.awaited == NONE;
        }

        boolean mayAsk(int slide) {
            return !slides.isReady(slide) && slide != loader.slide && slide != stage.awaited
                && loader.queuePlace(slide) == NONE;
        }

        boolean mayBurn(int slide) {
            return slides.isReady(slide) && !stage.bears(slide);
        }

        /** Does one order of a text; tells whether the call of that name would not throw. */
        boolean obey(int letter, int number) {
            switch (letter) {
                case 'n':
                    return obeyGoOn();
                case 'a':
                    return obeyAsk(number);
                case 'b':
                    return obeyBurn(number);
                case 'p':
                    return obeyInsert(number);
                case 't':
                    // Not by passTicks, to keep the calls within eight levels.
                    for (int i = 0; i < number; i++) {
                        passTick();
                    }
                    return true;
                default:
                    return false;
            }
        }

        boolean obeyGoOn() {
            if (!mayGoOn()) {
                return false;
            }
            proceed();
            beginLoading();
            return true;
        }

        boolean obeyAsk(int slide) {
            if (!slides.has(slide) || !mayAsk(slide)) {
                return false;
            }
            loader.queue(slide);
            beginLoading();
            return true;
        }

        boolean obeyBurn(int slide) {
            if (!slides.has(slide) || !mayBurn(slide)) {
                return false;
            }
            putOnFire(slide);
            beginLoading();
            return true;
        }

        boolean obeyInsert(int slide) {
            if (!slides.has(slide) || programme.count >= MOST_PLACES) {
                return false;
            }
            programme.put(programme.count, slide);
            beginLoading();
            return true;
        }

        /** Goes on to the next place; tells whether its slide is shown at once. */
        boolean proceed() {
            int slide = programme.advance();
            if (slides.isReady(slide)) {
                accounts.hits++;
                bringOn(slide);
                return true;
            }
            accounts.misses++;
            stage.awaited = slide;
            int place = loader.queuePlace(slide);
            if (place != NONE) {
                loader.unqueue(place);
            }
            return false;
        }

        void bringOn(int slide) {
            stage.bring(slide, at(slides.fade, slide));
            slides.use(slide);
        }

        int passTicks(int ticks) {
            int shows = 0;
            for (int i = 0; i < ticks; i++) {
                shows += passTick();
            }
            return shows;
        }

        /** Lets one tick go by; gives how many slides are shown in it. */
        int passTick() {
            int shows = 0;
            accounts.time++;
            if (stage.awaited != NONE) {
                accounts.waited++;
            }
            slides.coolEmbers();
            stage.fadeOnce();
            // Ahead of the loading: a slide that is shown as this tick ends has been shown for none yet.
            stage.countShown();
            if (loadOnce()) {
                shows++;
            }
            if (paceIsReached() && proceed()) {
                shows++;
            }
            beginLoading();
            return shows;
        }

        boolean paceIsReached() {
            return settings.pace > 0 && mayGoOn() && stage.shown != NONE && stage.shownFor >= settings.pace;
        }

        /** Goes on with the loading by a tick; tells whether a slide that was waited for is shown. */
        boolean loadOnce() {
            int slide = loader.slide;
            if (slide == NONE) {
                return false;
            }
            loader.left--;
            if (loader.left > 0) {
                return false;
            }
            loader.slide = NONE;
            slides.setReady(slide, true);
            slides.use(slide);
            if (stage.awaited != slide) {
                return false;
            }
            bringOn(slide);
            return true;
        }

        void beginLoading() {
            if (loader.slide != NONE) {
                return;
            }
            int slide = nextToLoad();
            if (slide == NONE) {
                return;
            }
            int cost = at(slides.cost, slide);
            burnDownTo(settings.memory - cost);
            if (at(slides.ember, slide) > 0) {
                accounts.warmLoads++;
            }
            accounts.loads++;
            loader.slide = slide;
            loader.left = slides.ticksToLoad(slide, 0);
            loader.taken += cost;
            set(slides.ember, slide, 0);
        }

        int nextToLoad() {
            if (stage.awaited != NONE) {
                return stage.awaited;
            }
            if (loader.queued > 0) {
                int slide = at(loader.row, 0);
                loader.unqueue(0);
                return slide;
            }
            return nextInGoodTime();
        }

        int nextInGoodTime() {
            for (int places = 1; places <= settings.ahead; places++) {
                int slide = programme.slideAhead(places);
                if (slide != NONE && !slides.isReady(slide)) {
                    return loader.taken + at(slides.cost, slide) <= settings.memory ? slide : NONE;
                }
            }
            return NONE;
        }

        void putOnFire(int slide) {
            slides.setReady(slide, false);
            set(slides.ember, slide, settings.glow);
            set(slides.burnt, slide, at(slides.burnt, slide) + 1);
            loader.taken -= at(slides.cost, slide);
            accounts.burnings++;
        }

        void burnDownTo(int mostTaken) {
            if (loader.taken <= mostTaken) {
                return;
            }
            int length = lineUp();
            for (int i = 0; i < length && loader.taken > mostTaken; i++) {
                putOnFire(at(line, i));
            }
        }

        /** Puts the slides that may be burnt into the line, the first to burn ahead; gives how many they are. */
        int lineUp() {
            if (settings.order == LATEST_NEXT) {
                weighByNextUse();
            } else {
                weighByUseOrCost();
            }
            int length = 0;
            for (int slide = 0; slide < slides.count; slide++) {
                if (mayBurn(slide)) {
                    int place = length;
                    while (place > 0 && at(weight, at(line, place - 1)) < at(weight, slide)) {
                        set(line, place, at(line, place - 1));
                        place--;
                    }
                    set(line, place, slide);
                    length++;
                }
            }
            return length;
        }

        // Either way the slide with the greater weight is the one that burns sooner.
        void weighByUseOrCost() {
            for (int slide = 0; slide < slides.count; slide++) {
                boolean byUse = settings.order == LONGEST_AGO;
                set(weight, slide, byUse ? -at(slides.usedAt, slide) : at(slides.cost, slide));
            }
        }

        void weighByNextUse() {
            for (int slide = 0; slide < slides.count; slide++) {
                set(weight, slide, MOST_PLACES + 1);
            }
            // From the farthest place to the next one, so that a slide's next use is what stays.
            for (int places = programme.count; places > 0; places--) {
                set(weight, programme.slideAhead(places), places);
            }
        }

        /** The place in the order of burning, NONE for a slide that may not be burnt. */
        int placeInLine(int slide) {
            int length = lineUp();
            for (int i = 0; i < length; i++) {
                if (at(line, i) == slide) {
                    return i;
                }
            }
            return NONE;
        }

        int burningsToLoad(int slide) {
            if (slides.isReady(slide) || slide == loader.slide) {
                return 0;
            }
            int missing = loader.taken + at(slides.cost, slide) - settings.memory;
            int length = lineUp();
            int burnings = 0;
            while (burnings < length && missing > 0) {
                missing -= at(slides.cost, at(line, burnings));
                burnings++;
            }
            return burnings;
        }

        int sumOfCosts() {
            int sum = 0;
            for (int slide = 0; slide < slides.count; slide++) {
                if (slides.isReady(slide) || slide == loader.slide) {
                    sum += at(slides.cost, slide);
                }
            }
            return sum;
        }

        int sumOfWait() {
            if (loader.slide == stage.awaited) {
                return loader.left;
            }
            return loader.left + slides.ticksToLoad(stage.awaited, loader.left);
        }
    }

    /** The saved states, the oldest at first; a ring, so that nothing is made anew. */
    private static final class Shelf {
        int first;
        int count;
        final Bonfire[] ring;

        Shelf() {
            ring = new Bonfire[MOST_SAVED];
            for (int i = 0; i < ring.length; i++) {
                ring[i] = new Bonfire();
            }
        }

        void push(Bonfire state) {
            int place = (first + count) % MOST_SAVED;
            if (place >= 0 && place < ring.length && ring[place] != null) {
                ring[place].copyFrom(state);
            }
            if (count < MOST_SAVED) {
                count++;
            } else {
                first = (first + 1) % MOST_SAVED;
            }
        }

        void popInto(Bonfire state) {
            count--;
            int place = (first + count) % MOST_SAVED;
            if (place >= 0 && place < ring.length && ring[place] != null) {
                state.copyFrom(ring[place]);
            }
        }
    }

    /** The buffer, and what is read of a part: its letter, 0 until it is read, and its number, NONE until one is. */
    private static final class Text {
        int length;
        final int[] codes = new int[MOST_CODES];
        int letter;
        int number;
        int nextPart;

        void add(int code) {
            set(codes, length, code);
            length++;
        }

        void startReading() {
            startPart();
            nextPart = 0;
        }

        void startPart() {
            letter = 0;
            number = NONE;
        }

        /** Reads the next part of a text that tells orders; tells whether there is one. */
        boolean readPart() {
            startPart();
            int i = nextPart;
            while (i < length && at(codes, i) != ';') {
                accept(at(codes, i));
                i++;
            }
            nextPart = i + 1;
            return letter != 0;
        }

        /** Gives the place of the first error, the length if there is none. */
        int readToError() {
            startPart();
            for (int i = 0; i < length; i++) {
                if (!accept(at(codes, i))) {
                    return i;
                }
            }
            return length;
        }

        boolean tellsOrders() {
            return readToError() == length && partMayEnd();
        }

        boolean partMayEnd() {
            return letter == 'n' || number != NONE;
        }

        /** Reads a character; tells whether orders can go on with it. */
        boolean accept(int code) {
            if (letter == 0) {
                letter = code;
                return code == 'n' || code == 'a' || code == 'b' || code == 'p' || code == 't';
            }
            if (code == ';') {
                boolean ends = partMayEnd();
                startPart();
                return ends;
            }
            return acceptDigit(code);
        }

        boolean acceptDigit(int code) {
            if (letter == 'n' || code < '0' || code > '9' || number == 0) {
                return false;
            }
            int digit = code - '0';
            if (number == NONE) {
                number = digit;
                return digit > 0 || letter != 't';
            }
            number = 10 * number + digit;
            return number <= (letter == 't' ? MOST_TICKS : MOST_SLIDES - 1);
        }
    }
}
