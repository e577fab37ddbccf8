/**
 * A store of two tiers, a dear fast shelf and a cheap slow one, as ../shared/DOC.md tells it.
 * Words in capitals here are those of its section "Terms".
 */
public final class TwoTierStore {
    public static final int NONE = -1;

    private static final int NO_SUCH = -2;
    private static final int LOG_FULL = -3;
    private static final int FAULT_BASE = -1000;
    private static final int NO_PROOF = -1000000000;

    private static final int MOST_ITEMS = 8;
    private static final int MOST_SETS = 256;
    private static final int MOST_ROOM = 20;
    private static final int FIRST_ROOM = 6;
    private static final int MOST_LOGGED = 40;
    private static final int MOST_LIMIT = 40;
    private static final int MOST_BOOKS = 3;
    private static final int MOST_LINES = 30;
    private static final int MOST_GATES = 60;
    private static final int MOST_UNDONE = 8;
    private static final int MOST_IMAGES = 2;
    private static final int SIXTIETHS = 60;

    private static final int ONCE = 0;
    private static final int RENT = 1;
    private static final int HEAT = 2;

    private static final int HIT = 0;
    private static final int RENT_PAID = 1;
    private static final int WENT_DOWN = 2;
    private static final int WENT_UP = 3;

    /** Above all that a PLAN can pay, and far from where sums with it would wrap. */
    private static final int FAR = 1000000;

    private final Reader reader = new Reader();
    private final Wares draft = new Wares();
    private final State state = new State();
    private final History history = new History();
    /** Null where nothing was kept yet. */
    private final State[] images = new State[MOST_IMAGES];
    private final Gates gates = new Gates();
    private final Deeds deeds = new Deeds();
    private final Shelf trial = new Shelf();
    private final Planner planner = new Planner(true);
    private final Planner trialPlanner = new Planner(false);
    private final Rides toldRides = new Rides();
    private final Rides doneRides = new Rides();
    private final int[] drawing = new int[MOST_ROOM];
    private int drawingLength;
    private int drawSeed;

    public TwoTierStore() {
    }

    // ---- the tape, and what it tells ----

    public int feed(int a, int b, int c, int d, int e) {
        if (!reader.hasPlaceFor(20)) {
            return NONE;
        }
        reader.addNumber(a);
        reader.addNumber(b);
        reader.addNumber(c);
        reader.addNumber(d);
        reader.addNumber(e);
        return reader.length;
    }

    public boolean end(int n) {
        if (n < 0 || n > reader.length) {
            return false;
        }
        reader.length = n;
        return true;
    }

    public int store() {
        boolean good = reader.readStore(draft);
        reader.length = 0;
        if (!good) {
            return FAULT_BASE - reader.place;
        }
        state.begin(draft, reader.room, reader.rule);
        history.forget();
        planner.forget();
        return draft.count;
    }

    public int fault() {
        return reader.faultKind;
    }

    public int names() {
        boolean good = reader.readSteps(state.wares);
        reader.length = 0;
        if (!good) {
            return FAULT_BASE - reader.place;
        }
        history.keep(state);
        gates.newCall();
        int sum = 0;
        for (int i = 0; i < reader.steps && !state.log.isFull(); i++) {
            sum += state.ask(reader.step[i], deeds, gates);
        }
        return sum;
    }

    // ---- what lies where ----

    public int now(int what) {
        switch (what) {
            case 0: return state.shelf.room;
            case 1: return state.shelf.rule;
            case 2: return state.wares.count;
            case 3: return state.shelf.fast;
            case 4: return state.shelf.free();
            case 5: return state.paid;
            case 6: return state.log.count;
            case 7: return reader.length;
            case 8: return state.downs;
            case 9: return state.ups;
            default: return NONE;
        }
    }

    public int item(int k, int what) {
        if (!state.wares.has(k)) {
            return NONE;
        }
        switch (what) {
            case 0: return state.wares.size[k];
            case 1: return state.wares.price[k];
            case 2: return state.wares.rent[k];
            case 3: return state.shelf.density[k];
            case 4: return state.shelf.counter[k];
            case 5: return floatBits(state.shelf.heat[k]);
            default: return NONE;
        }
    }

    public int picture() {
        int n = 0;
        for (int k = 0; k < state.wares.count; k++) {
            int signs = state.shelf.holds(k) ? state.wares.size[k] : 0;
            for (int i = 0; i < signs && n < MOST_ROOM; i++) {
                drawing[n++] = state.wares.firstLetter(k);
            }
        }
        while (n < state.shelf.room && n < MOST_ROOM) {
            drawing[n++] = '.';
        }
        drawingLength = n;
        return n;
    }

    public int byteAt(int i) {
        return i >= 0 && i < drawingLength ? drawing[i] : NONE;
    }

    // ---- requests ----

    public int request(int k) {
        if (!state.wares.has(k)) {
            return NO_SUCH;
        }
        if (state.log.isFull()) {
            return LOG_FULL;
        }
        history.keep(state);
        gates.newCall();
        return state.ask(k, deeds, gates);
    }

    public int drawn(int n, int seed) {
        if (n < 1 || n > MOST_LOGGED || state.wares.count == 0) {
            return NONE;
        }
        history.keep(state);
        gates.newCall();
        drawSeed = seed;
        int sum = 0;
        for (int i = 0; i < n && !state.log.isFull(); i++) {
            sum += state.ask(drawItem(), deeds, gates);
        }
        return sum;
    }

    private int drawItem() {
        boolean even = draw(3) == 0;
        int k = draw(state.wares.count);
        return even ? k : draw(k + 1);
    }

    private int draw(int n) {
        drawSeed = drawSeed * 1103515245 + 12345;
        return n < 1 ? 0 : (drawSeed >>> 8) % n;
    }

    public int log(int i, int what) {
        if (!state.log.has(i)) {
            return NONE;
        }
        switch (what) {
            case 0: return state.log.asked[i];
            case 1: return state.log.paid[i];
            case 2: return state.log.fast[i];
            default: return NONE;
        }
    }

    public int spent(int k, int what) {
        if (!state.wares.has(k) || what < 0 || what > 2) {
            return NONE;
        }
        int sum = 0;
        for (int i = 0; i < state.log.count; i++) {
            if (state.log.asked[i] == k) {
                sum += spentIn(state.log.paid[i], what);
            }
        }
        return sum;
    }

    /** All but a HIT pays something, for PRICE and RENT are 1 at least. */
    private static int spentIn(int paid, int what) {
        switch (what) {
            case 0: return 1;
            case 1: return paid == 0 ? 1 : 0;
            default: return paid;
        }
    }

    // ---- changes by hand ----

    public int room(int n) {
        if (n < 1 || n > MOST_ROOM || n == state.shelf.room) {
            return NONE;
        }
        return startAnew(n, state.shelf.rule);
    }

    public int rule(int r) {
        if (r < ONCE || r > HEAT || r == state.shelf.rule) {
            return NONE;
        }
        return startAnew(state.shelf.room, r);
    }

    private int startAnew(int room, int rule) {
        history.keep(state);
        planner.forget();
        int went = Integer.bitCount(state.shelf.fast);
        state.shelf.begin(room, rule);
        state.log.count = 0;
        return went;
    }

    public int carry(int k, int up) {
        if (!state.wares.has(k) || up < 0 || up > 1) {
            return NO_SUCH;
        }
        gates.newCall();
        int hindered = hindrance(k, up);
        if (hindered != 0) {
            gates.pass();
            return hindered;
        }
        history.keep(state);
        state.move(k, deeds, gates);
        return 0;
    }

    private int hindrance(int k, int up) {
        if (state.shelf.holds(k) == (up == 1)) {
            return 1;
        }
        return up == 1 && state.wares.size[k] > state.shelf.free() ? 2 : 0;
    }

    public int gate(int i) {
        return i >= 0 && i < gates.count ? gates.told[i] : NONE;
    }

    public int rides(int set, int limit) {
        if (!canShift(set, limit)) {
            return NONE;
        }
        toldRides.find(state.wares, state.shelf, set, limit);
        return toldRides.count;
    }

    public int ride(int i) {
        return i >= 0 && i < toldRides.count ? toldRides.going[i] : NONE;
    }

    public int shift(int set, int limit) {
        if (!canShift(set, limit)) {
            return NONE;
        }
        int before = state.shelf.fast;
        if (set == before) {
            return 0;
        }
        doneRides.find(state.wares, state.shelf, set, limit);
        history.keep(state);
        gates.newCall();
        for (int i = 0; i < doneRides.count; i++) {
            moveAll(doneRides.going[i] & before);
            moveAll(doneRides.going[i] & set);
        }
        return Integer.bitCount(before ^ set);
    }

    private void moveAll(int set) {
        for (int k = 0; k < state.wares.count; k++) {
            if ((set >> k & 1) == 1) {
                state.move(k, deeds, gates);
            }
        }
    }

    private boolean canShift(int set, int limit) {
        if (limit < 1 || limit > MOST_LIMIT || set < 0 || set >= 1 << state.wares.count) {
            return false;
        }
        int going = state.shelf.fast ^ set;
        int sum = 0;
        for (int k = 0; k < state.wares.count; k++) {
            if ((going >> k & 1) == 1 && state.wares.size[k] > limit) {
                return false;
            }
            sum += (set >> k & 1) * state.wares.size[k];
        }
        return sum <= state.shelf.room;
    }

    // ---- books ----

    public int book(int k, int kind, int lines) {
        if (k < 0 || k >= MOST_BOOKS || kind < 0 || kind > 3 || lines < 0 || lines > MOST_LINES) {
            return NONE;
        }
        state.books[k].begin(kind, lines);
        return 0;
    }

    public int booked(int k, int what) {
        if (k < 0 || k >= MOST_BOOKS || !state.books[k].isOpen) {
            return NONE;
        }
        Book asked = state.books[k];
        switch (what) {
            case 0: return asked.written;
            case 1: return asked.leftOut;
            case 2: return asked.lost;
            case 3: return asked.sum;
            case 4: return asked.kind;
            case 5: return asked.lines;
            default: return NONE;
        }
    }

    public int line(int k, int i, int what) {
        if (k < 0 || k >= MOST_BOOKS || i < 0 || i >= state.books[k].written) {
            return NONE;
        }
        switch (what) {
            case 0: return state.books[k].kinds[i];
            case 1: return state.books[k].items[i];
            case 2: return state.books[k].amounts[i];
            default: return NONE;
        }
    }

    // ---- the best plan ----

    public int best() {
        return state.log.count == 0 ? NONE : leastPaid(state.log.count);
    }

    public int upTo(int i) {
        return state.log.has(i) ? leastPaid(i + 1) : NONE;
    }

    private int leastPaid(int requests) {
        planner.follow(state, state.shelf.room, NONE);
        return planner.least(requests);
    }

    public int plan(int i, int what) {
        if (!state.log.has(i) || what < 0 || what > 1) {
            return NONE;
        }
        trace();
        return what == 0 ? planner.paysAt(state, i) : planner.chosen[i];
    }

    private void trace() {
        planner.follow(state, state.shelf.room, NONE);
        planner.trace(state);
    }

    public int potential(int i) {
        if (!state.log.has(i)) {
            return NONE;
        }
        trace();
        return potentialBehind(i);
    }

    private int potentialBehind(int i) {
        int ours = 0;
        int lacking = 0;
        for (int k = 0; k < state.wares.count; k++) {
            int credit = state.log.densityBehind(i, k) * state.wares.size[k];
            ours += credit;
            if ((planner.chosen[i] >> k & 1) == 1) {
                lacking += SIXTIETHS * state.wares.price[k] - credit;
            }
        }
        return (state.shelf.room - 1) * ours + state.shelf.room * lacking;
    }

    public int proof(int i) {
        if (!state.log.has(i)) {
            return NO_PROOF;
        }
        trace();
        int grown = potentialBehind(i) - (i == 0 ? 0 : potentialBehind(i - 1));
        int allowed = SIXTIETHS * state.shelf.room * planner.paysAt(state, i);
        return allowed - SIXTIETHS * state.log.paid[i] - grown;
    }

    public int bestWith(int k) {
        if (!state.wares.has(k) || state.log.count == 0) {
            return NONE;
        }
        int least = trialLeast(state.shelf.room, k);
        return least >= FAR ? NONE : least;
    }

    private int trialLeast(int room, int needed) {
        trialPlanner.forget();
        trialPlanner.follow(state, room, needed);
        return trialPlanner.least(state.log.count);
    }

    public int ratio() {
        int least = best();
        if (least < 1) {
            return NONE;
        }
        int sum = 0;
        for (int i = 0; i < state.log.count; i++) {
            sum += state.log.paid[i];
        }
        return floatBits((float) sum / (float) least);
    }

    // ---- what would be ----

    public int soon(int k) {
        if (!state.wares.has(k)) {
            return NONE;
        }
        trial.copyFrom(state.shelf);
        for (int n = 0; n <= MOST_LOGGED; n++) {
            if (trial.holds(k)) {
                return n;
            }
            deeds.count = 0;
            trial.serve(state.wares, k, deeds);
        }
        return NONE;
    }

    public int victims(int k) {
        Shelf shelf = state.shelf;
        if (!state.wares.has(k) || shelf.holds(k) || state.wares.size[k] > shelf.room) {
            return NONE;
        }
        trial.copyFrom(shelf);
        deeds.count = 0;
        trial.makeWay(state.wares, state.wares.size[k], deeds);
        return shelf.fast ^ trial.fast;
    }

    public int curve(int n, int what) {
        if (n < 1 || n > MOST_ROOM || what < 0 || what > 1) {
            return NONE;
        }
        return what == 0 ? costBy(n, state.shelf.rule) : trialLeast(n, NONE);
    }

    public int would(int r) {
        return r < ONCE || r > HEAT ? NONE : costBy(state.shelf.room, r);
    }

    private int costBy(int room, int rule) {
        trial.begin(room, rule);
        int sum = 0;
        for (int i = 0; i < state.log.count; i++) {
            deeds.count = 0;
            sum += trial.serve(state.wares, state.log.asked[i], deeds);
        }
        return sum;
    }

    // ---- back to what was ----

    public int undo() {
        if (!history.takeBack(state)) {
            return NONE;
        }
        planner.forget();
        return history.count;
    }

    public boolean image(int k) {
        if (k < 0 || k >= MOST_IMAGES) {
            return false;
        }
        if (images[k] == null) {
            images[k] = new State();
        }
        images[k].copyFrom(state);
        return true;
    }

    public boolean restore(int k) {
        if (k < 0 || k >= MOST_IMAGES || images[k] == null) {
            return false;
        }
        state.copyFrom(images[k]);
        history.forget();
        planner.forget();
        return true;
    }

    /**
     * The bits of a float that is not below 0, by arithmetic: LANGUAGE.md leaves out Float's own functions.
     * Doubling and halving lose nothing here, for what is told is far from the ends of a float's range.
     */
    private static int floatBits(float f) {
        if (f <= 0f) {
            return 0;
        }
        float part = f;
        int exponent = 127;
        for (int i = 0; i < 127 && part >= 2f; i++) {
            part = part / 2f;
            exponent++;
        }
        for (int i = 0; i < 126 && part < 1f; i++) {
            part = part * 2f;
            exponent--;
        }
        return (exponent << 23) + (int) (part * 8388608f) - 8388608;
    }

    /** The ITEMS as a STORE tells them. */
    private static final class Wares {
        int count;
        final int[] size = new int[MOST_ITEMS];
        final int[] price = new int[MOST_ITEMS];
        final int[] rent = new int[MOST_ITEMS];
        /** Each NAME packed in one number, as Reader packs a word. */
        final int[] name = new int[MOST_ITEMS];

        boolean has(int k) {
            return k >= 0 && k < count;
        }

        int numberOf(int word) {
            for (int k = 0; k < count; k++) {
                if (name[k] == word) {
                    return k;
                }
            }
            return NONE;
        }

        int firstLetter(int k) {
            return (name[k] & 31) + 'a' - 1;
        }

        int fullDensity(int k) {
            return size[k] < 1 ? 0 : SIXTIETHS * price[k] / size[k];
        }

        /** Sums over all sets at once: each ITEM comes to all the sets of those ahead of it. */
        void sumSets(int[] each, int[] sums) {
            sums[0] = 0;
            for (int k = 0; k < count; k++) {
                int bit = 1 << k;
                for (int set = 0; set < bit; set++) {
                    sums[bit + set] = sums[set] + each[k];
                }
            }
        }

        void copyFrom(Wares other) {
            count = other.count;
            System.arraycopy(other.size, 0, size, 0, MOST_ITEMS);
            System.arraycopy(other.price, 0, price, 0, MOST_ITEMS);
            System.arraycopy(other.rent, 0, rent, 0, MOST_ITEMS);
            System.arraycopy(other.name, 0, name, 0, MOST_ITEMS);
        }
    }

    /** What one REQUEST or one move by hand did: its ENTRIES, ahead of any BOOK. */
    private static final class Deeds {
        /** A RENT, all but one ITEM DOWN, one UP are the most that one REQUEST does. */
        static final int MOST = MOST_ITEMS + 1;
        int count;
        final int[] kind = new int[MOST];
        final int[] item = new int[MOST];
        final int[] amount = new int[MOST];

        void add(int ofKind, int k, int much) {
            if (count < MOST) {
                kind[count] = ofKind;
                item[count] = k;
                amount[count] = much;
                count++;
            }
        }
    }

    /** The FAST shelf with its RULE, and what is counted of each ITEM, wherever it lies. */
    private static final class Shelf {
        int room = FIRST_ROOM;
        int rule = RENT;
        int fast;
        int used;
        final int[] density = new int[MOST_ITEMS];
        final int[] counter = new int[MOST_ITEMS];
        final float[] heat = new float[MOST_ITEMS];

        void begin(int newRoom, int newRule) {
            room = newRoom;
            rule = newRule;
            fast = 0;
            used = 0;
            for (int k = 0; k < MOST_ITEMS; k++) {
                density[k] = 0;
                counter[k] = 0;
                heat[k] = 0f;
            }
        }

        void copyFrom(Shelf other) {
            room = other.room;
            rule = other.rule;
            fast = other.fast;
            used = other.used;
            System.arraycopy(other.density, 0, density, 0, MOST_ITEMS);
            System.arraycopy(other.counter, 0, counter, 0, MOST_ITEMS);
            System.arraycopy(other.heat, 0, heat, 0, MOST_ITEMS);
        }

        boolean holds(int k) {
            return (fast >> k & 1) == 1;
        }

        int free() {
            return room - used;
        }

        /** A REQUEST for k: answers what is PAID. */
        int serve(Wares wares, int k, Deeds deeds) {
            warm(k);
            if (holds(k)) {
                density[k] = wares.fullDensity(k);
                deeds.add(HIT, k, 0);
                return 0;
            }
            boolean tooBig = wares.size[k] > room;
            int pays = 0;
            if (tooBig || rule != ONCE) {
                pays = wares.rent[k];
                deeds.add(RENT_PAID, k, pays);
            }
            if (!tooBig && isRipe(wares, k)) {
                makeWay(wares, wares.size[k], deeds);
                raise(wares, k, deeds);
                pays += wares.price[k];
            }
            return pays;
        }

        private void warm(int k) {
            for (int i = 0; i < MOST_ITEMS; i++) {
                heat[i] = heat[i] * 0.875f;
            }
            heat[k] = heat[k] + 1f;
        }

        private boolean isRipe(Wares wares, int k) {
            if (rule == ONCE) {
                return true;
            }
            if (rule == HEAT) {
                return heat[k] * (float) wares.rent[k] >= (float) wares.price[k];
            }
            counter[k] += wares.rent[k];
            return counter[k] >= wares.price[k];
        }

        void makeWay(Wares wares, int need, Deeds deeds) {
            // Behind each sinking one ITEM at least is without CREDIT, so two turns for each are enough.
            for (int turn = 0; turn < 2 * MOST_ITEMS && free() < need; turn++) {
                int poorest = poorestOnFast(wares);
                if (poorest == NONE) {
                    return;
                }
                if (density[poorest] == 0) {
                    lower(wares, poorest, deeds);
                } else {
                    sinkAll(wares, density[poorest]);
                }
            }
        }

        /** Of those with the least DENSITY the first; NONE from an empty shelf. */
        private int poorestOnFast(Wares wares) {
            int poorest = NONE;
            for (int k = 0; k < wares.count; k++) {
                if (holds(k) && (poorest == NONE || density[k] < density[poorest])) {
                    poorest = k;
                }
            }
            return poorest;
        }

        private void sinkAll(Wares wares, int by) {
            for (int k = 0; k < wares.count; k++) {
                if (holds(k)) {
                    density[k] -= by;
                }
            }
        }

        void lower(Wares wares, int k, Deeds deeds) {
            fast &= ~(1 << k);
            used -= wares.size[k];
            density[k] = 0;
            deeds.add(WENT_DOWN, k, wares.size[k]);
        }

        void raise(Wares wares, int k, Deeds deeds) {
            fast |= 1 << k;
            used += wares.size[k];
            density[k] = wares.fullDensity(k);
            counter[k] = 0;
            deeds.add(WENT_UP, k, wares.price[k]);
        }
    }

    /** The LOG, with the DENSITIES behind each REQUEST, which the POTENTIAL is made of. */
    private static final class Log {
        int count;
        final int[] asked = new int[MOST_LOGGED];
        final int[] paid = new int[MOST_LOGGED];
        final int[] fast = new int[MOST_LOGGED];
        final int[] density = new int[MOST_LOGGED * MOST_ITEMS];

        boolean has(int i) {
            return i >= 0 && i < count;
        }

        boolean isFull() {
            return count >= MOST_LOGGED;
        }

        int densityBehind(int i, int k) {
            return density[i * MOST_ITEMS + k];
        }

        void add(int k, int pays, Shelf behind) {
            if (isFull()) {
                return;
            }
            asked[count] = k;
            paid[count] = pays;
            fast[count] = behind.fast;
            System.arraycopy(behind.density, 0, density, count * MOST_ITEMS, MOST_ITEMS);
            count++;
        }

        void copyFrom(Log other) {
            count = other.count;
            System.arraycopy(other.asked, 0, asked, 0, count);
            System.arraycopy(other.paid, 0, paid, 0, count);
            System.arraycopy(other.fast, 0, fast, 0, count);
            System.arraycopy(other.density, 0, density, 0, count * MOST_ITEMS);
        }
    }

    /** A BOOK. */
    private static final class Book {
        boolean isOpen;
        int kind;
        int lines;
        int written;
        int leftOut;
        int lost;
        int sum;
        final int[] kinds = new int[MOST_LINES];
        final int[] items = new int[MOST_LINES];
        final int[] amounts = new int[MOST_LINES];

        void close() {
            isOpen = false;
            written = 0;
        }

        void begin(int newKind, int newLines) {
            isOpen = true;
            kind = newKind;
            lines = newLines;
            written = 0;
            leftOut = 0;
            lost = 0;
            sum = 0;
        }

        private boolean takes(int entry) {
            switch (kind) {
                case 0: return true;
                case 1: return entry == HIT || entry == RENT_PAID;
                case 2: return entry == WENT_DOWN || entry == WENT_UP;
                default: return entry == WENT_UP;
            }
        }

        void write(int entry, int item, int amount) {
            if (!isOpen) {
                return;
            }
            if (written >= lines) {
                lost++;
            } else if (!takes(entry)) {
                leftOut++;
            } else {
                kinds[written] = entry;
                items[written] = item;
                amounts[written] = amount;
                written++;
                sum += amount;
            }
        }

        void copyFrom(Book other) {
            isOpen = other.isOpen;
            kind = other.kind;
            lines = other.lines;
            written = other.written;
            leftOut = other.leftOut;
            lost = other.lost;
            sum = other.sum;
            System.arraycopy(other.kinds, 0, kinds, 0, written);
            System.arraycopy(other.items, 0, items, 0, written);
            System.arraycopy(other.amounts, 0, amounts, 0, written);
        }
    }

    /** All that undo() and restore() bring back. */
    private static final class State {
        final Wares wares = new Wares();
        final Shelf shelf = new Shelf();
        final Log log = new Log();
        final Book[] books = new Book[MOST_BOOKS];
        int paid;
        int downs;
        int ups;

        State() {
            for (int k = 0; k < MOST_BOOKS; k++) {
                books[k] = new Book();
            }
        }

        void begin(Wares told, int room, int rule) {
            wares.copyFrom(told);
            shelf.begin(room, rule);
            log.count = 0;
            paid = 0;
            downs = 0;
            ups = 0;
            for (int k = 0; k < MOST_BOOKS; k++) {
                books[k].close();
            }
        }

        void copyFrom(State other) {
            wares.copyFrom(other.wares);
            shelf.copyFrom(other.shelf);
            log.copyFrom(other.log);
            paid = other.paid;
            downs = other.downs;
            ups = other.ups;
            for (int k = 0; k < MOST_BOOKS; k++) {
                books[k].copyFrom(other.books[k]);
            }
        }

        /** A REQUEST for k, for which the LOG has room: answers what was PAID. */
        int ask(int k, Deeds deeds, Gates gates) {
            deeds.count = 0;
            int pays = shelf.serve(wares, k, deeds);
            paid += pays;
            log.add(k, pays, shelf);
            post(deeds, gates);
            return pays;
        }

        /** By hand: k goes to the other shelf, where there is room for it. */
        void move(int k, Deeds deeds, Gates gates) {
            deeds.count = 0;
            if (shelf.holds(k)) {
                shelf.lower(wares, k, deeds);
            } else {
                shelf.raise(wares, k, deeds);
                paid += wares.price[k];
            }
            post(deeds, gates);
        }

        private void post(Deeds deeds, Gates gates) {
            for (int i = 0; i < deeds.count; i++) {
                int kind = deeds.kind[i];
                downs += kind == WENT_DOWN ? 1 : 0;
                ups += kind == WENT_UP ? 1 : 0;
                if (kind == WENT_DOWN || kind == WENT_UP) {
                    gates.pass();
                }
                for (int k = 0; k < MOST_BOOKS; k++) {
                    books[k].write(kind, deeds.item[i], deeds.amount[i]);
                }
            }
        }
    }

    /** The states that undo() goes back to, the oldest at 'first', in a ring; each is made when it is first wanted, and used again. */
    private static final class History {
        private final State[] kept = new State[MOST_UNDONE];
        private int first;
        int count;

        private int place(int i) {
            int at = first + i;
            return at < MOST_UNDONE ? at : at - MOST_UNDONE;
        }

        void forget() {
            count = 0;
        }

        void keep(State state) {
            if (count == MOST_UNDONE) {
                first = place(1);
                count--;
            }
            int at = place(count);
            if (kept[at] == null) {
                kept[at] = new State();
            }
            kept[at].copyFrom(state);
            count++;
        }

        boolean takeBack(State state) {
            State latest = count < 1 ? null : kept[place(count - 1)];
            if (latest == null) {
                return false;
            }
            count--;
            state.copyFrom(latest);
            return true;
        }
    }

    /** What the GATES told of the latest call that opened any. */
    private static final class Gates {
        final int[] told = new int[MOST_GATES];
        int count;
        private boolean isNewCall;

        /** What was told stays until this call opens a GATE, if it does. */
        void newCall() {
            isNewCall = true;
        }

        void pass() {
            if (isNewCall) {
                count = 0;
                isNewCall = false;
            }
            for (int deed = 1; deed <= 4 && count < MOST_GATES; deed++) {
                told[count++] = deed;
            }
        }
    }

    /** Tries all sets behind each REQUEST, so that the least that a PLAN pays is known for each. */
    private static final class Planner {
        /** Without all rows only the latest is there to be read, and the one ahead of it. */
        private final boolean keepsAll;
        /** Row n, set s that fits: the least paid for the first n REQUESTS with s on FAST behind them. */
        private final int[] cost;
        private final int[] setSize = new int[MOST_SETS];
        private final int[] setPrice = new int[MOST_SETS];
        /** The sets that fit the ROOM, by their numbers: with a set all parts of it fit too. */
        private final int[] fitting = new int[MOST_SETS];
        private int fits;
        private int items;
        private int rows = NONE;
        private int traced = NONE;
        /** The BEST PLAN's set behind each REQUEST, when it was traced. */
        final int[] chosen = new int[MOST_LOGGED];

        Planner(boolean keepsAll) {
            this.keepsAll = keepsAll;
            cost = new int[(keepsAll ? MOST_LOGGED + 1 : 2) * MOST_SETS];
        }

        void forget() {
            rows = NONE;
            traced = NONE;
        }

        private int row(int n) {
            return (keepsAll ? n : n & 1) * MOST_SETS;
        }

        /** Adds the rows that the LOG has and the planner has not; needed: an ITEM that each set must have, or NONE. */
        void follow(State state, int room, int needed) {
            if (rows == NONE) {
                begin(state.wares, room);
            }
            int always = needed == NONE ? 0 : 1 << needed;
            for (int n = rows; n < state.log.count; n++) {
                int k = state.log.asked[n];
                boolean must = state.shelf.rule == ONCE && state.wares.size[k] <= room;
                moveAny(row(n), row(n + 1));
                pay(row(n + 1), 1 << k, must ? FAR : state.wares.rent[k], always);
                rows = n + 1;
            }
        }

        private void begin(Wares wares, int room) {
            items = wares.count;
            wares.sumSets(wares.size, setSize);
            wares.sumSets(wares.price, setPrice);
            fits = 0;
            for (int set = 0; set < 1 << items; set++) {
                if (setSize[set] <= room) {
                    fitting[fits++] = set;
                    cost[set] = FAR;
                }
            }
            cost[0] = 0;
            rows = 0;
        }

        /** Any go DOWN, then any UP: for one ITEM after the other, which comes to the same. */
        private void moveAny(int from, int to) {
            for (int i = 0; i < fits; i++) {
                cost[to + fitting[i]] = cost[from + fitting[i]];
            }
            for (int k = 0; k < items; k++) {
                letDown(to, 1 << k);
            }
            for (int k = 0; k < items; k++) {
                letUp(to, 1 << k);
            }
        }

        private void letDown(int to, int bit) {
            for (int i = 0; i < fits; i++) {
                int with = to + fitting[i];
                if ((fitting[i] & bit) != 0 && cost[with] < cost[with - bit]) {
                    cost[with - bit] = cost[with];
                }
            }
        }

        private void letUp(int to, int bit) {
            for (int i = 0; i < fits; i++) {
                int with = to + fitting[i];
                if ((fitting[i] & bit) != 0 && cost[with - bit] + setPrice[bit] < cost[with]) {
                    cost[with] = cost[with - bit] + setPrice[bit];
                }
            }
        }

        private void pay(int to, int asked, int rent, int always) {
            for (int i = 0; i < fits; i++) {
                int set = fitting[i];
                int sum = cost[to + set] + ((set & asked) == 0 ? rent : 0);
                boolean lacks = (set & always) != always;
                cost[to + set] = lacks || sum > FAR ? FAR : sum;
            }
        }

        int least(int n) {
            return cost[row(n) + leastSet(n)];
        }

        private int leastSet(int n) {
            int least = 0;
            for (int i = 1; i < fits; i++) {
                if (cost[row(n) + fitting[i]] < cost[row(n) + least]) {
                    least = fitting[i];
                }
            }
            return least;
        }

        /** The BEST PLAN itself, from the last set back, each the least number that can be. */
        void trace(State state) {
            if (traced == rows || rows < 1) {
                return;
            }
            chosen[rows - 1] = leastSet(rows);
            for (int i = rows - 1; i > 0; i--) {
                int unserved = cost[row(i + 1) + chosen[i]] - servingCost(state, i);
                chosen[i - 1] = firstAhead(row(i), chosen[i], unserved);
            }
            traced = rows;
        }

        private int firstAhead(int at, int behind, int sum) {
            for (int i = 0; i < fits; i++) {
                int set = fitting[i];
                if (cost[at + set] + setPrice[behind & ~set] == sum) {
                    return set;
                }
            }
            return 0;
        }

        private int servingCost(State state, int i) {
            int k = state.log.asked[i];
            return (chosen[i] >> k & 1) == 1 ? 0 : state.wares.rent[k];
        }

        int paysAt(State state, int i) {
            int ahead = i == 0 ? 0 : chosen[i - 1];
            return setPrice[chosen[i] & ~ahead] + servingCost(state, i);
        }
    }

    /** The fewest RIDES of a SHIFT. */
    private static final class Rides {
        int count;
        final int[] going = new int[MOST_ITEMS];
        private final int[] setSize = new int[MOST_SETS];
        /** By the set of those that are still to go: how many RIDES these need. */
        private final int[] needs = new int[MOST_SETS];
        private int target;
        private int limit;
        private int room;

        /** The set fits the ROOM and each ITEM that goes fits the LIMIT, so that there is always a row of RIDES. */
        void find(Wares wares, Shelf shelf, int newTarget, int newLimit) {
            target = newTarget;
            limit = newLimit;
            room = shelf.room;
            wares.sumSets(wares.size, setSize);
            int all = shelf.fast ^ target;
            countNeeds(all);
            count = needs[all];
            int left = all;
            for (int i = 0; i < count; i++) {
                going[i] = firstGoing(left);
                left ^= going[i];
            }
        }

        private void countNeeds(int all) {
            needs[0] = 0;
            for (int left = 1; left <= all; left++) {
                if ((left & ~all) == 0) {
                    needs[left] = needOf(left);
                }
            }
        }

        /** One by one, DOWN ahead of UP, they can always go. */
        private int needOf(int left) {
            int need = Integer.bitCount(left);
            for (int set = left; set > 0; set = set - 1 & left) {
                if (canGo(set, left) && needs[left ^ set] + 1 < need) {
                    need = needs[left ^ set] + 1;
                }
            }
            return need;
        }

        private int firstGoing(int left) {
            for (int set = 1; set <= left; set++) {
                if (canGo(set, left) && needs[left ^ set] == needs[left] - 1) {
                    return set;
                }
            }
            return left;
        }

        /** What lies on FAST behind it is the target but for those that are left still. */
        private boolean canGo(int set, int left) {
            return (set & ~left) == 0 && setSize[set] <= limit && setSize[target ^ left ^ set] <= room;
        }
    }

    /** The tape, and the two kinds of text on it. */
    private static final class Reader {
        private static final int MOST_TAPE = 440;
        private static final int MOST_TEXT = 400;
        private static final int MOST_LETTERS = 6;
        private static final int LETTER_BITS = 5;
        private static final int MOST_DIGITS = 2;
        private static final int MOST_DEPTH = 2;

        private static final int NO_TOKEN = 0;
        private static final int AT_END = 1;
        private static final int WORD = 2;
        private static final int NUMBER = 3;

        final int[] tape = new int[MOST_TAPE];
        int length;

        int faultKind;
        int place;

        int room;
        int rule;
        private boolean roomTold;
        private boolean ruleTold;

        final int[] step = new int[MOST_LOGGED];
        int steps;
        private int depth;
        private final int[] times = new int[MOST_DEPTH];
        private final int[] from = new int[MOST_DEPTH];

        /** NO_TOKEN, AT_END, WORD, NUMBER, or a sign itself. */
        private int token;
        private int tokenAt;
        private int next;
        /** A NUMBER's value; a WORD's letters, five bits each, the first one lowest. */
        private int value;

        boolean hasPlaceFor(int bytes) {
            return length + bytes <= MOST_TAPE;
        }

        void addNumber(int n) {
            for (int shift = 24; shift >= 0 && length < MOST_TAPE; shift -= 8) {
                tape[length++] = n >> shift & 255;
            }
        }

        boolean readStore(Wares draft) {
            draft.count = 0;
            room = FIRST_ROOM;
            rule = RENT;
            roomTold = false;
            ruleTold = false;
            if (!start()) {
                return false;
            }
            for (int lines = 0; lines < MOST_TEXT && token != AT_END; lines++) {
                if (!readLine(draft) || !take(';')) {
                    return false;
                }
            }
            return true;
        }

        private boolean readLine(Wares draft) {
            if (says("room")) {
                return readRoom();
            }
            if (says("rule")) {
                return readRule();
            }
            return says("item") ? readItem(draft) : fail(1);
        }

        private boolean readRoom() {
            if (roomTold) {
                return fail(3);
            }
            roomTold = true;
            advance();
            room = takeNumber(1, MOST_ROOM);
            return room != NONE;
        }

        private boolean readRule() {
            if (ruleTold) {
                return fail(3);
            }
            ruleTold = true;
            advance();
            rule = says("once") ? ONCE : says("rent") ? RENT : says("heat") ? HEAT : NONE;
            if (rule == NONE) {
                return fail(1);
            }
            advance();
            return true;
        }

        private boolean readItem(Wares draft) {
            int k = draft.count;
            if (k >= MOST_ITEMS) {
                return fail(4);
            }
            advance();
            if (!isName()) {
                return fail(1);
            }
            if (draft.numberOf(value) != NONE) {
                return fail(3);
            }
            draft.name[k] = value;
            advance();
            draft.size[k] = takeNumber(1, 6);
            draft.price[k] = faultKind == 0 ? takeNumber(1, 60) : NONE;
            draft.rent[k] = faultKind == 0 ? takeNumber(1, 20) : NONE;
            draft.count++;
            return faultKind == 0;
        }

        /** The REQUESTS that the text tells, so many as a LOG can hold. */
        boolean readSteps(Wares wares) {
            steps = 0;
            depth = 0;
            if (!start()) {
                return false;
            }
            for (int n = 0; n < MOST_TEXT && (token != AT_END || depth > 0); n++) {
                if (!readStep(wares)) {
                    return false;
                }
            }
            return true;
        }

        private boolean readStep(Wares wares) {
            if (says("again")) {
                return readAgain();
            }
            if (token == ']' && depth > 0) {
                repeat();
            } else if (!isName()) {
                return fail(1);
            } else if (wares.numberOf(value) == NONE) {
                return fail(3);
            } else {
                addStep(wares.numberOf(value));
            }
            advance();
            return take(';');
        }

        private boolean readAgain() {
            if (depth >= MOST_DEPTH) {
                return fail(5);
            }
            advance();
            int n = takeNumber(1, 9);
            if (n == NONE || !take('[')) {
                return false;
            }
            times[depth] = n;
            from[depth] = steps;
            depth++;
            return true;
        }

        /** Where the steps are cut short there is no place for any behind them either. */
        private void repeat() {
            depth--;
            int until = steps;
            for (int n = 1; n < times[depth]; n++) {
                for (int i = from[depth]; i < until; i++) {
                    addStep(step[i]);
                }
            }
        }

        private void addStep(int k) {
            if (steps < MOST_LOGGED) {
                step[steps++] = k;
            }
        }

        private boolean start() {
            faultKind = 0;
            next = 0;
            if (length > MOST_TEXT) {
                tokenAt = MOST_TEXT;
                return fail(1);
            }
            advance();
            return true;
        }

        private boolean fail(int kind) {
            faultKind = kind;
            place = tokenAt;
            return false;
        }

        private boolean take(int sign) {
            if (token != sign) {
                return fail(1);
            }
            advance();
            return true;
        }

        private int takeNumber(int low, int high) {
            boolean fits = value >= low && value <= high;
            if (token != NUMBER || !fits) {
                fail(token == NUMBER ? 2 : 1);
                return NONE;
            }
            int told = value;
            advance();
            return told;
        }

        private boolean isName() {
            return token == WORD && !says("room") && !says("rule") && !says("item") && !says("again");
        }

        private boolean says(String word) {
            if (token != WORD || next - tokenAt != word.length()) {
                return false;
            }
            for (int i = 0; i < word.length(); i++) {
                if (tape[tokenAt + i] != word.charAt(i)) {
                    return false;
                }
            }
            return true;
        }

        private void advance() {
            while (next < length && tape[next] == ' ') {
                next++;
            }
            tokenAt = next;
            if (next >= length) {
                token = AT_END;
                return;
            }
            readRun();
            if (next == tokenAt) {
                token = isSign(tape[next]) ? tape[next] : NO_TOKEN;
                next++;
            }
        }

        /** A run of letters and digits is a WORD or a NUMBER as a whole or it is none; what is too long may wrap. */
        private void readRun() {
            int letters = 0;
            int digits = 0;
            value = 0;
            while (next < length) {
                int sign = tape[next];
                if (sign >= 'a' && sign <= 'z') {
                    value += sign - 'a' + 1 << LETTER_BITS * letters;
                    letters++;
                } else if (sign >= '0' && sign <= '9') {
                    value = value * 10 + sign - '0';
                    digits++;
                } else {
                    break;
                }
                next++;
            }
            if (digits == 0 && letters <= MOST_LETTERS) {
                token = WORD;
            } else {
                token = letters == 0 && digits <= MOST_DIGITS ? NUMBER : NO_TOKEN;
            }
        }

        private static boolean isSign(int sign) {
            return sign == ';' || sign == '[' || sign == ']';
        }
    }
}
