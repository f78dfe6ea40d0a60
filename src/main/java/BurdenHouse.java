/** A burden house. What each call promises stands in ../shared/DOC.md, and words in capitals are its terms. */
public final class BurdenHouse {
    public static final int BAD = -1000000001, NO = -1000000002, FULL = -1000000003, NONE = -1000000005, NOTHING = -1000000011, KIND = -1000000012, INDEX = -1000000013, SIZE = -1000000014;

    private static final int BINS = 6, KINDS = 6, RINGS = 5, LAYERS = 24, TEXTS = 12, LADLES = 6, SHEETS = 4, SLOTS = 5;
    private static final int STUFF = 0, ORE = 1, COKE = 2, SINTER = 3, SMALL = 4, FLUX = 5;
    private static final int BULK = 0, IRON = 1, ACID = 2, LIME = 3;
    private static final int DRAW = 0, GAS = 1, LATE = 2;
    private static final int SLOPE_RULE = 0, GAS_RULE = 1, AWAY_RULE = 2;
    private static final int MISSING = -1, SHORTS = 0, FLOATS = 1, PLACES = 24;
    private static final int HOLDS_NOTHING = 0, HOLDS_STUFF = 1, HOLDS_SHEET = 2, HOLDS_NUMBER = 3;
    private static final int TOLD_BINS = 3, LAST_HOUR = 999, DOWN_HOURS = 60, TAPE_BYTES = 96, WAITING = 60;

    private final House house;
    private final House image;
    private boolean imageKept;
    /** The furnace in which hours are tried that do not come to pass. */
    private final Furnace trial;
    private final Tape tape;
    private final Sheet[] sheets;
    private final Slot[] slots;
    private final int[] waiting;
    private int waits;

    public BurdenHouse() {
        house = new House();
        image = new House();
        imageKept = false;
        trial = new Furnace();
        tape = new Tape();
        sheets = new Sheet[SHEETS];
        for (int i = 0; i < SHEETS; i++) {
            sheets[i] = new Sheet();
        }
        slots = new Slot[SLOTS];
        for (int i = 0; i < SLOTS; i++) {
            slots[i] = new Slot();
        }
        waiting = new int[WAITING];
        waits = 0;
    }

    // ---- bins

    public int bin(int kind, int of, int tons) {
        if (!isKind(kind) || !isWithin(of, 0, 9999) || !isWithin(tons, 0, 9999)) {
            return BAD;
        }
        return house.bins.add(kind, of, tons);
    }

    public int told(int bin, int what) {
        if (!house.bins.has(bin)) {
            return BAD;
        }
        Bins bins = house.bins;
        switch (what) {
            case 0: return bins.kind[bin];
            case 1: return bins.share[bin];
            case 2: return bins.price[bin];
            case 3: return bins.tons[bin];
            case 4: return bins.turns[bin];
            case 5: return Stuff.holdsOf(bins.kind[bin]);
            default: return BAD;
        }
    }

    public int of(int bin, int t, int what) {
        if (!house.bins.has(bin) || !isWithin(t, 0, 999) || !isWithin(what, BULK, LIME)) {
            return BAD;
        }
        return Stuff.amountOf(house.bins.kind[bin], house.bins.share[bin], t, what);
    }

    public int as(int bin, int kind) {
        if (!house.bins.has(bin) || !isKind(kind)) {
            return BAD;
        }
        return Stuff.isOf(house.bins.kind[bin], kind) ? house.bins.tons[bin] : KIND;
    }

    public int fill(int bin, int n) {
        if (!house.bins.has(bin) || !isWithin(n, 1, 9999)) {
            return BAD;
        }
        if (house.bins.tons[bin] + n > 9999) {
            return FULL;
        }
        house.bins.tons[bin] += n;
        return house.bins.tons[bin];
    }

    public int turns(int bin, int v) {
        if (!house.bins.has(bin) || !isWithin(v, 1, 99999)) {
            return BAD;
        }
        int before = house.bins.turns[bin];
        house.bins.turns[bin] = v;
        return before;
    }

    public int rule(int what, int v) {
        if (!isWithin(what, SLOPE_RULE, AWAY_RULE) || !isWithin(v, what == GAS_RULE ? 0 : 1, 999)) {
            return BAD;
        }
        int before = house.rules[what];
        house.rules[what] = v;
        return before;
    }

    public int empty(int bin, int r) {
        if (!house.bins.has(bin) || !isWithin(r, 1, 999)) {
            return BAD;
        }
        return house.bins.tons[bin] / r;
    }

    // ---- the furnace

    public int charge(int bin, int t) {
        if (!house.bins.has(bin) || !isWithin(t, 1, 999)) {
            return BAD;
        }
        if (house.bins.tons[bin] < t) {
            return NO;
        }
        if (!house.furnace.hasRoom()) {
            return FULL;
        }
        house.chargeOut(bin, t);
        return house.furnace.count;
    }

    public int layer(int layer, int what) {
        if (!house.furnace.has(layer)) {
            return BAD;
        }
        Layer asked = house.furnace.layers[layer];
        switch (what) {
            case 0: return asked.bin;
            case 1: return asked.hour;
            case 2: return asked.tons;
            case 3: return asked.left;
            default: return isWithin(what, 4, 8) ? asked.inRing[what - 4] : BAD;
        }
    }

    public int ring(int ring, int what) {
        if (!isWithin(ring, 0, RINGS - 1)) {
            return BAD;
        }
        Furnace furnace = house.furnace;
        switch (what) {
            case 0: return furnace.topOf(ring);
            case 1: return furnace.resistanceOf(ring);
            case 2:
                furnace.partGas(house.gasFor(furnace));
                return furnace.parts[ring];
            case 3:
                furnace.partGas(house.gasFor(furnace));
                return furnace.eatenOf(ring);
            default: return BAD;
        }
    }

    public int run(int n) {
        if (!isWithin(n, 1, 60)) {
            return BAD;
        }
        if (house.furnace.hour + n > LAST_HOUR) {
            return FULL;
        }
        for (int i = 0; i < n; i++) {
            house.passHour(house.furnace);
        }
        return house.furnace.hour;
    }

    public int round() {
        return house.playRound();
    }

    public int hearth(int what) {
        switch (what) {
            case 0: return house.furnace.iron;
            case 1: return house.furnace.acid;
            case 2: return house.furnace.lime;
            case 3: return house.furnace.basic();
            default: return BAD;
        }
    }

    public int cast(int n) {
        if (!isWithin(n, 1, 9999)) {
            return BAD;
        }
        if (house.furnace.iron < n) {
            return NO;
        }
        house.furnace.takeOut(n);
        return house.furnace.iron;
    }

    public int down(int layer) {
        if (!house.furnace.has(layer)) {
            return BAD;
        }
        trial.become(house.furnace);
        Layer asked = trial.layers[layer];
        for (int i = 0; i < DOWN_HOURS; i++) {
            int hour = trial.hour;
            house.passHour(trial);
            if (asked.left == 0) {
                return hour;
            }
        }
        return NONE;
    }

    // ---- programs

    public int feed(int a, int b, int c) {
        if (tape.length + 12 > TAPE_BYTES) {
            return FULL;
        }
        tape.addNumber(a);
        tape.addNumber(b);
        tape.addNumber(c);
        return tape.length;
    }

    public int trim(int n) {
        if (!isWithin(n, 0, tape.length)) {
            return BAD;
        }
        tape.length = n;
        return n;
    }

    public int text() {
        int fault = tape.readText();
        tape.length = 0;
        if (fault >= 0) {
            return -100 - fault;
        }
        return house.texts.add(tape);
    }

    public int textTold(int text, int what) {
        if (!house.texts.has(text)) {
            return BAD;
        }
        switch (what) {
            case 0: return house.texts.key[text];
            case 1: return house.texts.bin[text];
            case 2: return house.texts.pieces[text];
            default: return BAD;
        }
    }

    public int why(int key, int bin) {
        if (!isWithin(key, DRAW, LATE) || key == DRAW && !isWithin(bin, 0, BINS - 1)) {
            return BAD;
        }
        int text = house.texts.lastOf(key, bin);
        return text < 0 ? NONE : text;
    }

    // ---- burdens, ladles

    public int choose(int bin) {
        if (!house.bins.has(bin)) {
            return BAD;
        }
        if (house.bins.isTold(bin)) {
            return NO;
        }
        return house.bins.addTold(bin);
    }

    public int clear() {
        int were = house.bins.tolds;
        house.bins.tolds = 0;
        return were;
    }

    public int burden(int need, int ends, int what) {
        if (!isWithin(need, 0, 9999) || !isWithin(ends, 0, 999999) || ends / 1000 > ends % 1000) {
            return BAD;
        }
        if (!isWithin(what, -1, house.bins.tolds - 1)) {
            return BAD;
        }
        int mix = house.bins.cheapestMix(need, ends / 1000, ends % 1000);
        if (mix < 0) {
            return NONE;
        }
        return what < 0 ? house.bins.priceIn(mix) : house.bins.tensIn(mix, what);
    }

    public int ladle(int cap) {
        if (!isWithin(cap, 1, 999)) {
            return BAD;
        }
        return house.ladles.add(cap);
    }

    public int backAt(int ladle) {
        if (!house.ladles.has(ladle)) {
            return BAD;
        }
        return Math.min(house.ladles.ready[ladle], 99999);
    }

    public int pour(int n, int minute) {
        if (!isWithin(n, 1, 9999) || !isWithin(minute, 0, 9999)) {
            return BAD;
        }
        if (house.ladles.count == 0 || house.furnace.iron < n) {
            return NO;
        }
        return house.pourOut(n, minute);
    }

    // ---- sheets, slots

    public int sheet(int sheet, int sort, int n) {
        if (!isSheet(sheet) || !isWithin(sort, MISSING, FLOATS)) {
            return BAD;
        }
        if (sort == MISSING) {
            sheets[sheet].makeNew(MISSING, 0);
            return 0;
        }
        if (n > PLACES) {
            return BAD;
        }
        if (n < 0) {
            return SIZE;
        }
        sheets[sheet].makeNew(sort, n);
        return n;
    }

    public int mark(int sheet, int place, int v) {
        if (!isSheet(sheet)) {
            return BAD;
        }
        Sheet marked = sheets[sheet];
        if (marked.sort == MISSING) {
            return NOTHING;
        }
        if (!marked.has(place)) {
            return INDEX;
        }
        if (v == NONE) {
            if (marked.sort == SHORTS) {
                return KIND;
            }
            marked.lose(place);
            return 1;
        }
        if (marked.sort == FLOATS && !isWithin(v, -99999, 99999)) {
            return BAD;
        }
        marked.put(place, v);
        return 1;
    }

    public int sound(int sheet, int what, int n) {
        if (!isSheet(sheet) || !isWithin(what, 0, 1) || what == 1 && !isWithin(n, 0, 9999)) {
            return BAD;
        }
        if (sheets[sheet].sort == MISSING) {
            return NOTHING;
        }
        return what == 0 ? sheets[sheet].hangs() : sheets[sheet].slips(n);
    }

    public int tops(int sheet, int place) {
        if (!isSheet(sheet)) {
            return BAD;
        }
        Sheet sounded = sheets[sheet];
        if (sounded.sort == MISSING) {
            return NOTHING;
        }
        if (!sounded.has(place)) {
            return INDEX;
        }
        int many = Math.min(RINGS, sounded.count - place);
        for (int r = 0; r < many; r++) {
            sounded.put(place + r, house.furnace.topOf(r));
        }
        return many;
    }

    public int copy(int from, int place, int to, int at, int many) {
        if (!isSheet(from) || !isSheet(to)) {
            return BAD;
        }
        Sheet source = sheets[from];
        Sheet target = sheets[to];
        if (source.sort == MISSING || target.sort == MISSING) {
            return NOTHING;
        }
        if (source.sort != target.sort) {
            return KIND;
        }
        if (!source.hasRow(place, many) || !target.hasRow(at, many)) {
            return INDEX;
        }
        System.arraycopy(source.values, place, target.values, at, many);
        System.arraycopy(source.lost, place, target.lost, at, many);
        return many;
    }

    public int lay(int slot, int thing, int k) {
        if (!isSlot(slot) || !isWithin(thing, HOLDS_NOTHING, HOLDS_NUMBER)) {
            return BAD;
        }
        if (thing == HOLDS_STUFF && !house.bins.has(k) || thing == HOLDS_SHEET && !isSheet(k)) {
            return BAD;
        }
        if (thing == HOLDS_SHEET && sheets[k].sort == MISSING) {
            return NOTHING;
        }
        Slot laid = slots[slot];
        int held = laid.thing;
        laid.thing = thing;
        if (thing == HOLDS_STUFF) {
            laid.kind = house.bins.kind[k];
            laid.share = house.bins.share[k];
        } else if (thing == HOLDS_SHEET) {
            laid.sheet.become(sheets[k]);
        } else {
            laid.number = k;
        }
        return held;
    }

    public int ask(int slot, int kind) {
        if (!isSlot(slot) || !isKind(kind)) {
            return BAD;
        }
        Slot asked = slots[slot];
        if (asked.thing == HOLDS_NOTHING) {
            return NOTHING;
        }
        if (asked.thing != HOLDS_STUFF || !Stuff.isOf(asked.kind, kind)) {
            return KIND;
        }
        return Stuff.acidOf(asked.kind, asked.share, 100);
    }

    public int item(int slot, int place) {
        if (!isSlot(slot)) {
            return BAD;
        }
        Slot asked = slots[slot];
        if (asked.thing == HOLDS_NOTHING) {
            return NOTHING;
        }
        if (asked.thing != HOLDS_SHEET) {
            return KIND;
        }
        if (!asked.sheet.has(place)) {
            return INDEX;
        }
        return asked.sheet.lost[place] ? KIND : asked.sheet.values[place];
    }

    public int rest(int slot, int n) {
        if (!isSlot(slot)) {
            return BAD;
        }
        Slot asked = slots[slot];
        if (asked.thing == HOLDS_NOTHING) {
            return NOTHING;
        }
        if (asked.thing != HOLDS_NUMBER) {
            return KIND;
        }
        if (n == 0) {
            return NO;
        }
        return asked.number % n;
    }

    // ---- rows, images

    public int tell(int v) {
        if (waits >= WAITING) {
            return FULL;
        }
        waiting[waits] = v;
        waits++;
        return waits;
    }

    public int check(int n) {
        int told = waits;
        waits = 0;
        if (!isWithin(n, 1, 30)) {
            return BAD;
        }
        if (!imageKept) {
            return NO;
        }
        trial.become(image.furnace);
        for (int i = 0; i < n; i++) {
            image.passHour(trial);
            if (!isTold(2 * i, trial.iron, told)) {
                return 1 + 2 * i;
            }
            if (!isTold(2 * i + 1, trial.allBulk(), told)) {
                return 2 + 2 * i;
            }
        }
        return told == 2 * n ? 0 : 1 + 2 * n;
    }

    public int keep() {
        image.become(house);
        imageKept = true;
        return house.furnace.hour;
    }

    public int back() {
        if (!imageKept) {
            return NO;
        }
        house.become(image);
        return house.furnace.hour;
    }

    public int count(int what) {
        switch (what) {
            case 0: return house.bins.count;
            case 1: return house.furnace.count;
            case 2: return house.furnace.allBulk();
            case 3: return house.texts.count;
            case 4: return house.bins.tolds;
            case 5: return house.ladles.count;
            case 6: return house.furnace.hour;
            case 7: return waits;
            case 8: return tape.length;
            default: return BAD;
        }
    }

    private boolean isTold(int place, int due, int told) {
        return place < told && place < WAITING && waiting[place] == due;
    }

    private static boolean isWithin(int v, int least, int greatest) {
        return v >= least && v <= greatest;
    }

    private static boolean isKind(int kind) {
        return isWithin(kind, 0, KINDS - 1);
    }

    private static boolean isSheet(int sheet) {
        return isWithin(sheet, 0, SHEETS - 1);
    }

    private static boolean isSlot(int slot) {
        return isWithin(slot, 0, SLOTS - 1);
    }

    private static int heldWithin999(int v) {
        return Math.max(0, Math.min(999, v));
    }

    /** 100 times lime by acid, 0 without acid. */
    private static int basicOf(int lime, int acid) {
        return acid == 0 ? 0 : (int) (100L * lime / acid);
    }

    /** All that an image keeps. */
    private static final class House {
        final Bins bins;
        final Furnace furnace;
        final Texts texts;
        final Ladles ladles;
        /** By the numbers of the call rule: slope, gas, away. */
        final int[] rules;

        House() {
            bins = new Bins();
            furnace = new Furnace();
            texts = new Texts();
            ladles = new Ladles();
            rules = new int[] {60, 100, 60};
        }

        void become(House other) {
            bins.become(other.bins);
            furnace.become(other.furnace);
            texts.become(other.texts);
            ladles.become(other.ladles);
            System.arraycopy(other.rules, 0, rules, 0, rules.length);
        }

        /** One hour of a furnace, its own or one that only tries, by this house's programs. */
        void passHour(Furnace of) {
            of.passHour(gasFor(of));
        }

        int gasFor(Furnace of) {
            int text = texts.lastOf(GAS, 0);
            if (text < 0) {
                return rules[GAS_RULE];
            }
            texts.name('h', of.hour);
            texts.name('t', of.greatestTop());
            texts.name('i', of.iron);
            return heldWithin999(texts.worth(text));
        }

        int playRound() {
            int charged = 0;
            for (int bin = 0; bin < bins.count; bin++) {
                int t = drawFor(bin);
                if (t > 0 && furnace.hasRoom()) {
                    chargeOut(bin, t);
                    charged++;
                }
            }
            return charged;
        }

        /** The tons that the programs draw of a bin now: 0 without a text. */
        int drawFor(int bin) {
            int text = texts.lastOf(DRAW, bin);
            if (text < 0) {
                return 0;
            }
            texts.name('h', furnace.hour);
            texts.name('t', furnace.greatestTop());
            texts.name('b', furnace.basic());
            texts.name('s', bins.tons[bin]);
            return Math.min(heldWithin999(texts.worth(text)), bins.tons[bin]);
        }

        void chargeOut(int bin, int t) {
            bins.tons[bin] -= t;
            furnace.layOn(bins, bin, t);
            furnace.slide(rules[SLOPE_RULE]);
        }

        int pourOut(int n, int minute) {
            furnace.takeOut(n);
            int late = ladles.takeIn(n, minute, rules[AWAY_RULE]);
            return late + lateFor(ladles.fillings);
        }

        int lateFor(int fillings) {
            int text = texts.lastOf(LATE, 0);
            if (text < 0) {
                return 0;
            }
            texts.name('h', furnace.hour);
            texts.name('c', fillings);
            return heldWithin999(texts.worth(text));
        }
    }

    /** What is made of t tons of the kinds of stuff. */
    private static final class Stuff {
        /** The kind above each kind. */
        private static final int[] ABOVE = {-1, STUFF, STUFF, ORE, COKE, STUFF};

        private Stuff() {
        }

        /** Whether a kind is another one or under it. */
        static boolean isOf(int kind, int other) {
            int k = kind;
            for (int step = 0; step < KINDS && k >= 0 && k < KINDS; step++) {
                if (k == other) {
                    return true;
                }
                k = ABOVE[k];
            }
            return false;
        }

        static int amountOf(int kind, int share, int t, int what) {
            switch (what) {
                case BULK: return bulkOf(kind, t);
                case IRON: return ironOf(kind, share, t);
                case ACID: return acidOf(kind, share, t);
                default: return limeOf(kind, share, t);
            }
        }

        static int bulkOf(int kind, int t) {
            switch (kind) {
                case ORE:
                case SINTER: return t - t / 4;
                case COKE: return 2 * t;
                default: return t;
            }
        }

        static int ironOf(int kind, int share, int t) {
            switch (kind) {
                case ORE: return t * share / 100;
                case SINTER: return t * share / 100 < t / 20 ? 0 : t * share / 100 - t / 20;
                default: return 0;
            }
        }

        static int acidOf(int kind, int share, int t) {
            switch (kind) {
                case ORE:
                case SINTER: return t / 10 + (t - ironOf(kind, share, t)) / 4;
                case FLUX: return 0;
                default: return t / 10;
            }
        }

        static int limeOf(int kind, int share, int t) {
            switch (kind) {
                case SINTER: return t / 8;
                case FLUX: return t * share / 100;
                default: return 0;
            }
        }

        static int holdsOf(int kind) {
            switch (kind) {
                case ORE: return 3;
                case SINTER:
                case COKE: return 1;
                case SMALL: return 5;
                default: return 2;
            }
        }
    }

    /** The bins, those told for the burden, and the search for it. */
    private static final class Bins {
        final int[] kind;
        final int[] share;
        final int[] price;
        final int[] tons;
        final int[] turns;
        int count;
        final int[] told;
        int tolds;

        Bins() {
            kind = new int[BINS];
            share = new int[BINS];
            price = new int[BINS];
            tons = new int[BINS];
            turns = new int[BINS];
            count = 0;
            told = new int[TOLD_BINS];
            tolds = 0;
        }

        void become(Bins other) {
            System.arraycopy(other.kind, 0, kind, 0, BINS);
            System.arraycopy(other.share, 0, share, 0, BINS);
            System.arraycopy(other.price, 0, price, 0, BINS);
            System.arraycopy(other.tons, 0, tons, 0, BINS);
            System.arraycopy(other.turns, 0, turns, 0, BINS);
            count = other.count;
            System.arraycopy(other.told, 0, told, 0, TOLD_BINS);
            tolds = other.tolds;
        }

        boolean has(int bin) {
            return bin >= 0 && bin < count;
        }

        /** One more bin: its number, or FULL. */
        int add(int newKind, int shareAndPrice, int newTons) {
            if (count >= BINS) {
                return FULL;
            }
            int bin = count;
            kind[bin] = newKind;
            share[bin] = shareAndPrice / 100;
            price[bin] = shareAndPrice % 100;
            tons[bin] = newTons;
            turns[bin] = 22222;
            count++;
            return bin;
        }

        boolean isTold(int bin) {
            for (int i = 0; i < tolds; i++) {
                if (told[i] == bin) {
                    return true;
                }
            }
            return false;
        }

        /** One more told bin: how many are, or FULL. */
        int addTold(int bin) {
            if (tolds >= TOLD_BINS) {
                return FULL;
            }
            told[tolds] = bin;
            tolds++;
            return tolds;
        }

        /**
         * The mix that is the burden, or -1. A mix is a number whose digits are the tens of tons of the told bins,
         * the first told one first, so that the first of several is the least number.
         */
        int cheapestMix(int need, int least, int greatest) {
            int mixes = 1;
            for (int i = 0; i < tolds; i++) {
                mixes *= 10;
            }
            int best = -1;
            int bestPrice = 0;
            for (int mix = 0; mix < mixes; mix++) {
                int price = priceIn(mix);
                if ((best < 0 || price < bestPrice) && suits(mix, need, least, greatest)) {
                    best = mix;
                    bestPrice = price;
                }
            }
            return best;
        }

        boolean suits(int mix, int need, int least, int greatest) {
            if (sumIn(mix, IRON) < need) {
                return false;
            }
            return isWithin(basicOf(sumIn(mix, LIME), sumIn(mix, ACID)), least, greatest);
        }

        int tensIn(int mix, int i) {
            int digits = mix;
            for (int j = tolds - 1; j > i; j--) {
                digits /= 10;
            }
            return digits % 10;
        }

        int sumIn(int mix, int what) {
            int sum = 0;
            for (int i = 0; i < tolds; i++) {
                sum += Stuff.amountOf(kind[told[i]], share[told[i]], 10 * tensIn(mix, i), what);
            }
            return sum;
        }

        int priceIn(int mix) {
            int sum = 0;
            for (int i = 0; i < tolds; i++) {
                sum += price[told[i]] * 10 * tensIn(mix, i);
            }
            return sum;
        }
    }

    /** One charge in the furnace, and what is left of it. */
    private static final class Layer {
        int bin;
        int hour;
        int tons;
        int holds;
        int iron;
        int acid;
        int lime;
        /** All bulk as it was charged. */
        int whole;
        /** All bulk now. */
        int left;
        final int[] inRing;

        Layer() {
            inRing = new int[RINGS];
        }

        void become(Layer other) {
            bin = other.bin;
            hour = other.hour;
            tons = other.tons;
            holds = other.holds;
            iron = other.iron;
            acid = other.acid;
            lime = other.lime;
            whole = other.whole;
            left = other.left;
            System.arraycopy(other.inRing, 0, inRing, 0, RINGS);
        }

        /** How much more of an amount has been brought when so much bulk is gone than when so much was. */
        int broughtBetween(int amount, int wasGone, int isGone) {
            return whole < 1 ? 0 : amount * isGone / whole - amount * wasGone / whole;
        }
    }

    /** The rings with their layers, the hour, and the hearth. */
    private static final class Furnace {
        private static final int[] AREAS = {1, 3, 5, 7, 9};
        private static final int SLIDES = 400;

        int hour;
        int iron;
        int acid;
        int lime;
        /** The lowest first; those from count on are free to be used again. */
        final Layer[] layers;
        int count;
        /** All bulk of each ring. */
        final int[] bulk;
        /** What something is parted by, what is left of each division, and the parts. */
        final int[] weights;
        final long[] rests;
        final int[] parts;

        Furnace() {
            hour = 0;
            iron = 0;
            acid = 0;
            lime = 0;
            layers = new Layer[LAYERS];
            for (int i = 0; i < LAYERS; i++) {
                layers[i] = new Layer();
            }
            count = 0;
            bulk = new int[RINGS];
            weights = new int[RINGS];
            rests = new long[RINGS];
            parts = new int[RINGS];
        }

        void become(Furnace other) {
            hour = other.hour;
            iron = other.iron;
            acid = other.acid;
            lime = other.lime;
            count = other.count;
            for (int i = 0; i < count; i++) {
                layers[i].become(other.layers[i]);
            }
            System.arraycopy(other.bulk, 0, bulk, 0, RINGS);
        }

        boolean has(int layer) {
            return layer >= 0 && layer < count;
        }

        boolean hasRoom() {
            return count < LAYERS;
        }

        int topOf(int ring) {
            return bulk[ring] * 100 / AREAS[ring];
        }

        int greatestTop() {
            int greatest = 0;
            for (int r = 0; r < RINGS; r++) {
                greatest = Math.max(greatest, topOf(r));
            }
            return greatest;
        }

        int allBulk() {
            int all = 0;
            for (int r = 0; r < RINGS; r++) {
                all += bulk[r];
            }
            return all;
        }

        int basic() {
            return basicOf(lime, acid);
        }

        int resistanceOf(int ring) {
            int resistance = 1;
            for (int i = 0; i < count; i++) {
                resistance += layers[i].inRing[ring] * layers[i].holds;
            }
            return resistance;
        }

        /** Parts a whole by the weights: what the whole parts leave goes by the greatest rests. */
        void partByWeights(int whole) {
            long sum = 0;
            for (int r = 0; r < RINGS; r++) {
                sum += weights[r];
                parts[r] = 0;
            }
            if (sum <= 0) {
                return;
            }
            int left = whole;
            for (int r = 0; r < RINGS; r++) {
                long product = (long) whole * weights[r];
                parts[r] = (int) (product / sum);
                rests[r] = product % sum;
                left -= parts[r];
            }
            for (int given = 0; given < left && given < RINGS; given++) {
                int r = greatestRest();
                parts[r]++;
                rests[r] = -1;
            }
        }

        int greatestRest() {
            int greatest = 0;
            for (int r = 1; r < RINGS; r++) {
                if (rests[r] > rests[greatest]) {
                    greatest = r;
                }
            }
            return greatest;
        }

        /** A charge lies on top, parted by the turns of its bin. */
        void layOn(Bins bins, int bin, int t) {
            if (!hasRoom()) {
                return;
            }
            Layer layer = layers[count];
            count++;
            int kind = bins.kind[bin];
            int share = bins.share[bin];
            layer.bin = bin;
            layer.hour = hour;
            layer.tons = t;
            layer.holds = Stuff.holdsOf(kind);
            layer.iron = Stuff.ironOf(kind, share, t);
            layer.acid = Stuff.acidOf(kind, share, t);
            layer.lime = Stuff.limeOf(kind, share, t);
            layer.whole = Stuff.bulkOf(kind, t);
            layer.left = layer.whole;
            int digits = bins.turns[bin];
            for (int r = RINGS - 1; r >= 0; r--) {
                weights[r] = digits % 10;
                digits /= 10;
            }
            partByWeights(layer.whole);
            for (int r = 0; r < RINGS; r++) {
                layer.inRing[r] = parts[r];
                bulk[r] += parts[r];
            }
        }

        void slide(int slope) {
            if (count < 1) {
                return;
            }
            Layer onTop = layers[count - 1];
            for (int times = 0; times < SLIDES; times++) {
                if (!slidesOnce(onTop, slope)) {
                    return;
                }
            }
        }

        boolean slidesOnce(Layer onTop, int slope) {
            for (int r = 0; r < RINGS - 1; r++) {
                int difference = topOf(r) - topOf(r + 1);
                int higher = difference > 0 ? r : r + 1;
                int lower = difference > 0 ? r + 1 : r;
                if (Math.abs(difference) > slope && onTop.inRing[higher] > 0) {
                    onTop.inRing[higher]--;
                    bulk[higher]--;
                    onTop.inRing[lower]++;
                    bulk[lower]++;
                    return true;
                }
            }
            return false;
        }

        void partGas(int gas) {
            for (int r = 0; r < RINGS; r++) {
                int resistance = resistanceOf(r);
                weights[r] = resistance < 1 ? 0 : AREAS[r] * 100000 / resistance;
            }
            partByWeights(gas);
        }

        /** Of the gas that was parted last. */
        int eatenOf(int ring) {
            return parts[ring] / 4 + 1;
        }

        void passHour(int gas) {
            partGas(gas);
            for (int r = 0; r < RINGS; r++) {
                eat(r, eatenOf(r));
            }
            dropEmptyLayers();
            hour++;
        }

        void eat(int ring, int eaten) {
            int hunger = eaten;
            for (int i = 0; i < count && hunger > 0; i++) {
                int goes = Math.min(hunger, layers[i].inRing[ring]);
                bring(layers[i], goes);
                layers[i].inRing[ring] -= goes;
                bulk[ring] -= goes;
                hunger -= goes;
            }
        }

        void bring(Layer layer, int goes) {
            int wasGone = layer.whole - layer.left;
            int isGone = wasGone + goes;
            iron += layer.broughtBetween(layer.iron, wasGone, isGone);
            acid += layer.broughtBetween(layer.acid, wasGone, isGone);
            lime += layer.broughtBetween(layer.lime, wasGone, isGone);
            layer.left -= goes;
        }

        /** The layers that are gone change places with those that stay, so that they can be used again. */
        void dropEmptyLayers() {
            int staying = 0;
            for (int i = 0; i < count; i++) {
                Layer layer = layers[i];
                if (layer.left > 0) {
                    layers[i] = layers[staying];
                    layers[staying] = layer;
                    staying++;
                }
            }
            count = staying;
        }

        /** A cast; there must be so much iron. */
        void takeOut(int n) {
            if (iron < 1) {
                return;
            }
            acid -= (int) ((long) acid * n / iron);
            lime -= (int) ((long) lime * n / iron);
            iron -= n;
        }
    }

    /** Texts as postfix code: a number below NAME is itself, NAME and a letter is a name, -1 times a byte a sign. */
    private static final class Texts {
        static final int NAME = 10000;

        final int[] key;
        final int[] bin;
        /** How many numbers and names each has. */
        final int[] pieces;
        final int[][] code;
        final int[] codes;
        int count;
        /** What each letter means, by its place behind a. */
        final int[] named;
        final int[] stack;

        Texts() {
            key = new int[TEXTS];
            bin = new int[TEXTS];
            pieces = new int[TEXTS];
            code = new int[TEXTS][TAPE_BYTES];
            codes = new int[TEXTS];
            count = 0;
            named = new int[26];
            stack = new int[TAPE_BYTES];
        }

        void become(Texts other) {
            count = other.count;
            System.arraycopy(other.key, 0, key, 0, count);
            System.arraycopy(other.bin, 0, bin, 0, count);
            System.arraycopy(other.pieces, 0, pieces, 0, count);
            System.arraycopy(other.codes, 0, codes, 0, count);
            for (int i = 0; i < count; i++) {
                System.arraycopy(other.code[i], 0, code[i], 0, codes[i]);
            }
        }

        boolean has(int text) {
            return text >= 0 && text < count;
        }

        /** One more text, as the tape read it last: its number, or FULL. */
        int add(Tape tape) {
            if (count >= TEXTS) {
                return FULL;
            }
            int text = count;
            key[text] = tape.key;
            bin[text] = tape.bin;
            pieces[text] = tape.pieces;
            codes[text] = tape.codes;
            System.arraycopy(tape.code, 0, code[text], 0, tape.codes);
            count++;
            return text;
        }

        /** The text that counts, or -1. */
        int lastOf(int wantedKey, int wantedBin) {
            for (int i = count - 1; i >= 0; i--) {
                if (key[i] == wantedKey && (wantedKey != DRAW || bin[i] == wantedBin)) {
                    return i;
                }
            }
            return -1;
        }

        void name(char letter, int value) {
            if (letter >= 'a' && letter <= 'z') {
                named[letter - 'a'] = value;
            }
        }

        int worth(int text) {
            int depth = 0;
            for (int i = 0; i < codes[text]; i++) {
                int part = code[text][i];
                if (part >= 0) {
                    if (depth < TAPE_BYTES) {
                        stack[depth] = part < NAME ? part : valueOf(part - NAME);
                        depth++;
                    }
                } else if (part == -'!') {
                    if (depth >= 1) {
                        stack[depth - 1] = stack[depth - 1] == 0 ? 1 : 0;
                    }
                } else if (depth >= 2) {
                    depth--;
                    stack[depth - 1] = joined(-part, stack[depth - 1], stack[depth]);
                }
            }
            return stack[0];
        }

        int valueOf(int letter) {
            return letter >= 0 && letter < 26 ? named[letter] : 0;
        }

        static int joined(int sign, int a, int b) {
            switch (sign) {
                case '|': return a != 0 || b != 0 ? 1 : 0;
                case '&': return a != 0 && b != 0 ? 1 : 0;
                case '<': return a < b ? 1 : 0;
                case '=': return a == b ? 1 : 0;
                case '>': return a > b ? 1 : 0;
                case '+': return a + b;
                case '-': return a - b;
                case '*': return a * b;
                default: return b == 0 ? 0 : a / b;
            }
        }
    }

    /** The tape, and the reading of it as a text. */
    private static final class Tape {
        private static final int END = 0, LETTERS = 1, DIGITS = 2, SIGN = 3;
        private static final int OPEN_AT_MOST = 8, TEST_RANK = 3;

        final int[] bytes;
        int length;
        /** The word or sign that is looked at: its place, the place behind it, its sort. */
        int at;
        int end;
        int sort;
        /** No blank stands between it and a word ahead of it. */
        boolean close;
        int key;
        int bin;
        int pieces;
        final int[] code;
        int codes;
        /** Signs that were read and wait for what is on their right. */
        final int[] signs;
        int held;
        int openBrackets;
        int openNots;
        boolean wantsPiece;

        Tape() {
            bytes = new int[TAPE_BYTES];
            length = 0;
            code = new int[TAPE_BYTES];
            signs = new int[TAPE_BYTES];
        }

        /** Four bytes, the highest first, as far as there is room. */
        void addNumber(int number) {
            for (int shift = 24; shift >= 0 && length < TAPE_BYTES; shift -= 8) {
                bytes[length] = number >>> shift & 255;
                length++;
            }
        }

        /** Reads the tape as a text: the place of its fault, or -1. */
        int readText() {
            beginReading();
            if (!takesHead()) {
                return at;
            }
            step();
            for (int words = 0; words < TAPE_BYTES && sort != END; words++) {
                if (!(wantsPiece ? takesPiece() : takesSign())) {
                    return at;
                }
                step();
            }
            if (wantsPiece || openBrackets > 0) {
                return at;
            }
            writeHeldFrom(1, true);
            return -1;
        }

        void beginReading() {
            end = 0;
            sort = END;
            pieces = 0;
            codes = 0;
            held = 0;
            openBrackets = 0;
            openNots = 0;
            wantsPiece = true;
        }

        /** Looks at the next word or sign. */
        void step() {
            boolean behindWord = sort == LETTERS || sort == DIGITS;
            at = end;
            while (at < length && bytes[at] == ' ') {
                at++;
            }
            close = behindWord && at == end;
            end = at;
            sort = sortAt(at);
            if (sort == END) {
                return;
            }
            end++;
            while (sort != SIGN && end < length && sortAt(end) == sort) {
                end++;
            }
        }

        int sortAt(int place) {
            if (place >= length) {
                return END;
            }
            int b = bytes[place];
            if (b >= 'a' && b <= 'z') {
                return LETTERS;
            }
            return b >= '0' && b <= '9' ? DIGITS : SIGN;
        }

        boolean takesHead() {
            step();
            key = keyThere();
            bin = NONE;
            if (key != DRAW) {
                return key >= 0;
            }
            step();
            if (sort != DIGITS || close) {
                return false;
            }
            bin = numberThere();
            return bin >= 0 && bin < BINS;
        }

        int keyThere() {
            if (isThere("draw")) {
                return DRAW;
            }
            if (isThere("gas")) {
                return GAS;
            }
            return isThere("late") ? LATE : -1;
        }

        boolean isThere(String word) {
            if (end - at != word.length()) {
                return false;
            }
            for (int i = 0; i < word.length(); i++) {
                if (bytes[at + i] != word.charAt(i)) {
                    return false;
                }
            }
            return true;
        }

        /** The digits as a number, or -1 if they are more than four. */
        int numberThere() {
            if (end - at > 4) {
                return -1;
            }
            int number = 0;
            for (int i = at; i < end; i++) {
                number = number * 10 + bytes[i] - '0';
            }
            return number;
        }

        boolean takesPiece() {
            if (sort == SIGN) {
                return takesOpening();
            }
            if (close) {
                return false;
            }
            int part = sort == DIGITS ? numberThere() : nameThere();
            if (part < 0) {
                return false;
            }
            write(part);
            pieces++;
            endPiece();
            return true;
        }

        int nameThere() {
            if (end - at != 1) {
                return -1;
            }
            String names = key == DRAW ? "htbs" : key == GAS ? "hti" : "hc";
            int letter = bytes[at];
            return names.indexOf((char) letter) < 0 ? -1 : Texts.NAME + letter - 'a';
        }

        boolean takesOpening() {
            int sign = bytes[at];
            if (sign == '(' && openBrackets < OPEN_AT_MOST) {
                openBrackets++;
            } else if (sign == '!' && openNots < OPEN_AT_MOST) {
                openNots++;
            } else {
                return false;
            }
            hold(sign);
            return true;
        }

        boolean takesSign() {
            if (sort != SIGN) {
                return false;
            }
            int sign = bytes[at];
            if (sign == ')') {
                return takesClosing();
            }
            int rank = rankOf(sign);
            if (rank == 0) {
                return false;
            }
            writeHeldFrom(rank, rank != TEST_RANK);
            if (rank == TEST_RANK && heldRank() == TEST_RANK) {
                return false;
            }
            hold(sign);
            wantsPiece = true;
            return true;
        }

        boolean takesClosing() {
            if (openBrackets == 0) {
                return false;
            }
            writeHeldFrom(1, true);
            if (held > 0) {
                held--; // the bracket itself: nothing else is left of rank 0
            }
            openBrackets--;
            endPiece();
            return true;
        }

        /** A piece ends, and with it every ! right ahead of it. */
        void endPiece() {
            wantsPiece = false;
            while (held > 0 && signs[held - 1] == '!') {
                held--;
                openNots--;
                write(-'!');
            }
        }

        /** Writes the held signs down to the first of a lesser rank (a bracket has rank 0), those of the same too if told. */
        void writeHeldFrom(int rank, boolean sameToo) {
            while (held > 0 && (heldRank() > rank || sameToo && heldRank() == rank)) {
                held--;
                write(-signs[held]);
            }
        }

        int heldRank() {
            return held > 0 ? rankOf(signs[held - 1]) : 0;
        }

        static int rankOf(int sign) {
            switch (sign) {
                case '|': return 1;
                case '&': return 2;
                case '<':
                case '=':
                case '>': return TEST_RANK;
                case '+':
                case '-': return 4;
                case '*':
                case '/': return 5;
                default: return 0;
            }
        }

        void hold(int sign) {
            if (held < TAPE_BYTES) {
                signs[held] = sign;
                held++;
            }
        }

        void write(int part) {
            if (codes < TAPE_BYTES) {
                code[codes] = part;
                codes++;
            }
        }
    }

    private static final class Ladles {
        final int[] cap;
        /** The minute at which each is back. */
        final int[] ready;
        int count;
        /** Of the pour that was last. */
        int fillings;

        Ladles() {
            cap = new int[LADLES];
            ready = new int[LADLES];
            count = 0;
            fillings = 0;
        }

        void become(Ladles other) {
            System.arraycopy(other.cap, 0, cap, 0, LADLES);
            System.arraycopy(other.ready, 0, ready, 0, LADLES);
            count = other.count;
        }

        boolean has(int ladle) {
            return ladle >= 0 && ladle < count;
        }

        /** One more ladle: its number, or FULL. */
        int add(int newCap) {
            if (count >= LADLES) {
                return FULL;
            }
            int ladle = count;
            cap[ladle] = newCap;
            ready[ladle] = 0;
            count++;
            return ladle;
        }

        int firstReady() {
            int first = 0;
            for (int i = 1; i < count; i++) {
                if (ready[i] < ready[first]) {
                    first = i;
                }
            }
            return first;
        }

        /** Fills ladles with n tons, each of which holds 1 at least: how much later than they might all fillings begin. */
        int takeIn(int n, int minute, int away) {
            int late = 0;
            int end = minute;
            int left = n;
            fillings = 0;
            while (left > 0 && fillings < n) {
                int ladle = firstReady();
                int goes = Math.min(left, cap[ladle]);
                int begin = Math.max(end, ready[ladle]);
                late += begin - end;
                end = begin + goes;
                ready[ladle] = end + away;
                left -= goes;
                fillings++;
            }
            return late;
        }
    }

    /** A row of shorts or floats; whole numbers of floats stay whole as ints. */
    private static final class Sheet {
        int sort;
        int count;
        final int[] values;
        /** Which places are no number. */
        final boolean[] lost;

        Sheet() {
            sort = MISSING;
            count = 0;
            values = new int[PLACES];
            lost = new boolean[PLACES];
        }

        void become(Sheet other) {
            sort = other.sort;
            count = other.count;
            System.arraycopy(other.values, 0, values, 0, PLACES);
            System.arraycopy(other.lost, 0, lost, 0, PLACES);
        }

        void makeNew(int newSort, int places) {
            sort = newSort;
            count = places;
            for (int i = 0; i < PLACES; i++) {
                values[i] = 0;
                lost[i] = false;
            }
        }

        boolean has(int place) {
            return place >= 0 && place < count;
        }

        boolean hasRow(int place, int many) {
            return place >= 0 && place <= count && many >= 0 && many <= count - place;
        }

        void put(int place, int v) {
            values[place] = sort == SHORTS ? (short) v : v;
            lost[place] = false;
        }

        void lose(int place) {
            values[place] = 0;
            lost[place] = true;
        }

        /** The known place ahead of one, or -1. */
        int knownAhead(int place) {
            for (int i = place - 1; i >= 0; i--) {
                if (!lost[i]) {
                    return i;
                }
            }
            return -1;
        }

        int hangs() {
            int most = 0;
            int row = 0;
            for (int i = 0; i < count; i++) {
                int ahead = knownAhead(i);
                if (!lost[i] && ahead >= 0) {
                    row = values[i] >= values[ahead] ? row + 1 : 0;
                    most = Math.max(most, row);
                }
            }
            return most;
        }

        int slips(int n) {
            int slips = 0;
            for (int i = 0; i < count; i++) {
                int ahead = knownAhead(i);
                if (!lost[i] && ahead >= 0 && values[ahead] - values[i] > n) {
                    slips++;
                }
            }
            return slips;
        }
    }

    private static final class Slot {
        int thing;
        int kind;
        int share;
        int number;
        final Sheet sheet;

        Slot() {
            thing = HOLDS_NOTHING;
            sheet = new Sheet();
        }
    }
}
