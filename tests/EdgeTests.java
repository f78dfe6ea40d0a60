import java.util.Arrays;

/** A test for each sentence of the promises that names an edge or a refusal. Answers worked out by hand. */
public final class EdgeTests {
    private static final int BAD = BurdenHouse.BAD, NO = BurdenHouse.NO, FULL = BurdenHouse.FULL, NONE = BurdenHouse.NONE,
        NOTHING = BurdenHouse.NOTHING, KIND = BurdenHouse.KIND, INDEX = BurdenHouse.INDEX, SIZE = BurdenHouse.SIZE;
    private static final int LEAST = Sentences.LEAST, MOST = Sentences.MOST;
    private static final int STUFF = 0, ORE = 1, COKE = 2, SINTER = 3, SMALL = 4, FLUX = 5;

    public static void main(String[] args) throws Exception {
        Sentences.run(EdgeTests.class, "Promise .*", args);
    }

    /** Six bins, of KINDS 0 to 5, with so many tons each. */
    private static BurdenHouse withSixBins(int tons) {
        BurdenHouse x = new BurdenHouse();
        for (int kind = 0; kind < 6; kind++) {
            Sentences.due("bin", x.bin(kind, 5001, tons), kind);
        }
        return x;
    }

    // ---- bins

    @Sentences.Says(at = "Promise 1", words = "As told; no BINS.")
    static void p01New() {
        BurdenHouse x = new BurdenHouse();
        Sentences.row("counts", Sentences.answers(9, x::count), 0, 0, 0, 0, 0, 0, 0, 0, 0);
        Sentences.row("bins", Sentences.answers(6, bin -> x.told(bin, 0)), BAD, BAD, BAD, BAD, BAD, BAD);
        Sentences.row("ladles", Sentences.answers(6, x::backAt), BAD, BAD, BAD, BAD, BAD, BAD);
        Sentences.row("sheets", Sentences.answers(4, sheet -> x.tops(sheet, 0)), NOTHING, NOTHING, NOTHING, NOTHING);
        Sentences.row("slots", Sentences.answers(5, slot -> x.item(slot, 0)), NOTHING, NOTHING, NOTHING, NOTHING, NOTHING);
        Sentences.row("hearth", Sentences.hearth(x), 0, 0, 0, 0);
        Sentences.row("tops", Sentences.rings(x, 0), 0, 0, 0, 0, 0);
        Sentences.row("resistances", Sentences.rings(x, 1), 1, 1, 1, 1, 1);
        Sentences.row("gas of 100", Sentences.rings(x, 2), 4, 12, 20, 28, 36);
        Sentences.row("rules", Sentences.answers(3, what -> x.rule(what, 1)), 60, 100, 60);
        Sentences.due("no image", x.back(), NO);
        BurdenHouse y = new BurdenHouse();
        x.bin(STUFF, 0, 0);
        Sentences.due("another object stands by itself", y.count(0), 0);
        Sentences.due("another object stands by itself", y.rule(0, 60), 60);
    }

    @Sentences.Says(at = "Promise 2", words = "BAD;")
    static void p02Bad() {
        BurdenHouse x = new BurdenHouse();
        Sentences.each("kind", BAD, kind -> x.bin(kind, 0, 0), -1, 6, LEAST, MOST);
        Sentences.each("share and price", BAD, of -> x.bin(0, of, 0), -1, 10000, LEAST, MOST);
        Sentences.each("tons", BAD, tons -> x.bin(0, 0, tons), -1, 10000, LEAST, MOST);
        Sentences.due("the greatest of all", x.bin(5, 9999, 9999), 0);
        Sentences.due("the least of all", x.bin(0, 0, 0), 1);
    }

    @Sentences.Says(at = "Promise 2", words = "FULL.")
    static void p02Full() {
        BurdenHouse x = withSixBins(0);
        Sentences.due("the seventh", x.bin(0, 0, 0), FULL);
        Sentences.due("as before", x.count(0), 6);
    }

    @Sentences.Says(at = "Promise 3", words = "BAD.")
    static void p03Bad() {
        BurdenHouse x = withSixBins(1);
        Sentences.each("bin", BAD, bin -> x.told(bin, 0), -1, 6, LEAST, MOST);
        Sentences.each("what", BAD, what -> x.told(0, what), -1, 6, LEAST, MOST);
        Sentences.due("the last of the last", x.told(5, 5), 2);
        Sentences.due("the first of the first", x.told(0, 0), 0);
        Sentences.due("of no bin yet", Sentences.withBin(STUFF, 0, 0).told(1, 0), BAD);
    }

    @Sentences.Says(at = "Promise 4", words = {"Of t (0 .. 999) tons of a BIN's STUFF", "BAD."})
    static void p04Bad() {
        BurdenHouse x = withSixBins(1);
        Sentences.each("bin", BAD, bin -> x.of(bin, 1, 0), -1, 6, LEAST, MOST);
        Sentences.each("tons", BAD, t -> x.of(0, t, 0), -1, 1000, LEAST, MOST);
        Sentences.each("what", BAD, what -> x.of(0, 1, what), -1, 4, LEAST, MOST);
        Sentences.due("0 tons", x.of(0, 0, 0), 0);
        Sentences.due("999 tons of the last", x.of(5, 999, 3), 499);
        Sentences.due("more tons than the bin has", x.of(0, 999, 0), 999);
    }

    @Sentences.Says(at = "Promise 5", words = {"A BIN's STUFF as one of a KIND: TONS.", "BAD: bin, kind;"})
    static void p05Bad() {
        BurdenHouse x = withSixBins(7);
        Sentences.each("bin", BAD, bin -> x.as(bin, 0), -1, 6, LEAST, MOST);
        Sentences.each("kind", BAD, kind -> x.as(0, kind), -1, 6, LEAST, MOST);
        Sentences.due("the first", x.as(0, 0), 7);
        Sentences.due("the last", x.as(5, 5), 7);
    }

    @Sentences.Says(at = "Promise 5", words = "KIND: it is not of that KIND, nor of one under it.")
    static void p05Kind() {
        BurdenHouse x = withSixBins(7);
        Sentences.row("STUFF", Sentences.answers(6, bin -> x.as(bin, STUFF)), 7, 7, 7, 7, 7, 7);
        Sentences.row("ORE", Sentences.answers(6, bin -> x.as(bin, ORE)), KIND, 7, KIND, 7, KIND, KIND);
        Sentences.row("COKE", Sentences.answers(6, bin -> x.as(bin, COKE)), KIND, KIND, 7, KIND, 7, KIND);
        Sentences.row("SINTER", Sentences.answers(6, bin -> x.as(bin, SINTER)), KIND, KIND, KIND, 7, KIND, KIND);
        Sentences.row("SMALL", Sentences.answers(6, bin -> x.as(bin, SMALL)), KIND, KIND, KIND, KIND, 7, KIND);
        Sentences.row("FLUX", Sentences.answers(6, bin -> x.as(bin, FLUX)), KIND, KIND, KIND, KIND, KIND, 7);
    }

    @Sentences.Says(at = "Promise 6", words = {"n tons (1 .. 9999) come to a BIN", "BAD;"})
    static void p06Bad() {
        BurdenHouse x = withSixBins(0);
        Sentences.each("bin", BAD, bin -> x.fill(bin, 1), -1, 6, LEAST, MOST);
        Sentences.each("tons", BAD, n -> x.fill(0, n), 0, -1, 10000, LEAST, MOST);
        Sentences.due("1", x.fill(0, 1), 1);
        Sentences.due("9999", x.fill(5, 9999), 9999);
    }

    @Sentences.Says(at = "Promise 6", words = "FULL: above 9999.")
    static void p06Full() {
        BurdenHouse x = Sentences.withBin(STUFF, 0, 1);
        Sentences.due("10000", x.fill(0, 9999), FULL);
        Sentences.due("as before", x.told(0, 3), 1);
        Sentences.due("9999 itself", x.fill(0, 9998), 9999);
        Sentences.due("one more", x.fill(0, 1), FULL);
        Sentences.due("as before", x.told(0, 3), 9999);
    }

    @Sentences.Says(at = "Promise 7", words = {"TURNS (five digits) of a BIN become v", "BAD: also if all are 0."})
    static void p07Bad() {
        BurdenHouse x = withSixBins(0);
        Sentences.each("bin", BAD, bin -> x.turns(bin, 1), -1, 6, LEAST, MOST);
        Sentences.each("turns", BAD, v -> x.turns(0, v), 0, -1, 100000, LEAST, MOST);
        Sentences.due("the least", x.turns(0, 1), 22222);
        Sentences.due("the greatest", x.turns(0, 99999), 1);
        Sentences.due("what they were", x.turns(0, 5), 99999);
    }

    @Sentences.Says(at = "Promise 8", words = {"SLOPE (what 0; 1 .. 999), GAS (1; 0 .. 999), AWAY (2; 1 .. 999) becomes v: what it was.", "BAD."})
    static void p08Bad() {
        BurdenHouse x = new BurdenHouse();
        Sentences.each("what", BAD, what -> x.rule(what, 1), -1, 3, LEAST, MOST);
        int[] least = {1, 0, 1};
        for (int i = 0; i < 3; i++) {
            int what = i;
            Sentences.each("rule", BAD, v -> x.rule(what, v), least[what] - 1, 1000, LEAST, MOST);
            Sentences.due("what it was", x.rule(what, least[what]), what == 1 ? 100 : 60);
            Sentences.due("the least", x.rule(what, 999), least[what]);
            Sentences.due("the greatest", x.rule(what, 5), 999);
        }
    }

    @Sentences.Says(at = "Promise 9", words = {"EMPTY of a BIN by r (1 .. 999).", "BAD."})
    static void p09Bad() {
        BurdenHouse x = withSixBins(999);
        Sentences.each("bin", BAD, bin -> x.empty(bin, 1), -1, 6, LEAST, MOST);
        Sentences.each("tons an hour", BAD, r -> x.empty(0, r), 0, -1, 1000, LEAST, MOST);
        Sentences.due("1", x.empty(0, 1), 999);
        Sentences.due("999", x.empty(5, 999), 1);
    }

    // ---- the furnace

    @Sentences.Says(at = "Promise 10", words = "BAD: bin, t;")
    static void p10Bad() {
        BurdenHouse x = withSixBins(9999);
        Sentences.each("bin", BAD, bin -> x.charge(bin, 1), -1, 6, LEAST, MOST);
        Sentences.each("tons", BAD, t -> x.charge(0, t), 0, -1, 1000, LEAST, MOST);
        Sentences.due("1", x.charge(0, 1), 1);
        Sentences.due("999", x.charge(5, 999), 2);
        Sentences.due("no bin 1 yet", Sentences.withBin(STUFF, 0, 9).charge(1, 1), BAD);
    }

    @Sentences.Says(at = "Promise 10", words = "NO: it has not so many tons;")
    static void p10No() {
        BurdenHouse x = Sentences.withBin(STUFF, 0, 7);
        Sentences.due("8 of 7", x.charge(0, 8), NO);
        Sentences.due("tons as before", x.told(0, 3), 7);
        Sentences.due("layers as before", x.count(1), 0);
        Sentences.due("7 of 7", x.charge(0, 7), 1);
        Sentences.due("1 of 0", x.charge(0, 1), NO);
    }

    @Sentences.Says(at = "Promise 10", words = "FULL.")
    static void p10Full() {
        BurdenHouse x = Sentences.withBin(STUFF, 0, 99);
        for (int i = 1; i <= 24; i++) {
            Sentences.due("charge", x.charge(0, 1), i);
        }
        Sentences.due("the 25th", x.charge(0, 1), FULL);
        Sentences.due("tons as before", x.told(0, 3), 75);
        Sentences.due("bulk as before", x.count(2), 24);
        x.rule(1, 0);
        x.run(1);
        Sentences.due("room again", x.count(1) < 24 ? 1 : 0, 1);
        Sentences.due("charge", x.charge(0, 1), x.count(1));
    }

    @Sentences.Says(at = "Promise 11", words = {"what 0 its BIN, 1 the HOUR, 2 tons, 3 all BULK in it now, 4 .. 8 BULK in RING 0 .. 4.", "BAD."})
    static void p11Bad() {
        BurdenHouse x = Sentences.withBin(STUFF, 0, 99);
        Sentences.due("no layer", x.layer(0, 0), BAD);
        x.charge(0, 5);
        x.charge(0, 6);
        Sentences.each("layer", BAD, layer -> x.layer(layer, 0), -1, 2, 24, LEAST, MOST);
        Sentences.each("what", BAD, what -> x.layer(0, what), -1, 9, LEAST, MOST);
        Sentences.due("0: the lowest", x.layer(0, 2), 5);
        Sentences.row("the first and the last", Sentences.answers(9, what -> x.layer(1, what)), 0, 0, 6, 6, 0, 2, 2, 1, 1);
    }

    @Sentences.Says(at = "Promise 12", words = "BAD.")
    static void p12Bad() {
        BurdenHouse x = new BurdenHouse();
        Sentences.each("ring", BAD, ring -> x.ring(ring, 0), -1, 5, LEAST, MOST);
        Sentences.each("what", BAD, what -> x.ring(0, what), -1, 4, LEAST, MOST);
        Sentences.row("the last ring", Sentences.answers(4, what -> x.ring(4, what)), 0, 1, 36, 10);
        Sentences.row("the first ring", Sentences.answers(4, what -> x.ring(0, what)), 0, 1, 4, 2);
    }

    @Sentences.Says(at = "Promise 12", words = "2 its part of GAS in the open HOUR")
    static void p12OpenHour() {
        BurdenHouse x = new BurdenHouse();
        Sentences.read(x, "gas h*25");
        Sentences.row("hour 0", Sentences.rings(x, 2), 0, 0, 0, 0, 0);
        x.run(1);
        Sentences.row("hour 1", Sentences.rings(x, 2), 1, 3, 5, 7, 9);
        Sentences.row("eaten", Sentences.rings(x, 3), 1, 1, 2, 2, 3);
    }

    @Sentences.Says(at = "Promise 13", words = {"n (1 .. 60) HOURS go by", "BAD;"})
    static void p13Bad() {
        BurdenHouse x = new BurdenHouse();
        Sentences.each("hours", BAD, x::run, 0, -1, 61, LEAST, MOST);
        Sentences.due("none went by", x.count(6), 0);
        Sentences.due("1", x.run(1), 1);
        Sentences.due("60", x.run(60), 61);
    }

    @Sentences.Says(at = "Promise 13", words = "FULL: it would be above 999.")
    static void p13Full() {
        BurdenHouse x = Sentences.withStuffInRing(4);
        Sentences.runTo(x, 990);
        x.rule(1, 0);
        x.charge(0, 20);
        Sentences.due("1000", x.run(10), FULL);
        Sentences.due("none went by", x.count(6), 990);
        Sentences.due("nothing was eaten", x.count(2), 20);
        Sentences.due("999 itself", x.run(9), 999);
        Sentences.due("one more", x.run(1), FULL);
        Sentences.due("the bulk of 9 hours", x.count(2), 11);
    }

    @Sentences.Says(at = "Promise 14", words = "A PROGRAM's round: how many BINS were charged.")
    static void p14Round() {
        BurdenHouse x = new BurdenHouse();
        Sentences.due("no bins", x.round(), 0);
        Sentences.read(x, "draw 0 2");
        Sentences.read(x, "draw 5 2");
        Sentences.due("texts of bins that are not there", x.round(), 0);
        for (int i = 0; i < 5; i++) {
            x.bin(STUFF, 0, 3);
        }
        Sentences.due("bins without a text", x.round(), 1);
        x.bin(STUFF, 0, 3);
        Sentences.due("the last bin, too", x.round(), 2);
        Sentences.row("tons", Sentences.answers(6, bin -> x.told(bin, 3)), 0, 3, 3, 3, 3, 1);
        Sentences.due("what is left", x.round(), 1);
        Sentences.due("nothing is left", x.round(), 0);
        Sentences.row("bins by numbers", Sentences.answers(4, layer -> x.layer(layer, 0)), 0, 0, 5, 5);
    }

    @Sentences.Says(at = "Promise 15", words = "BAD.")
    static void p15Bad() {
        BurdenHouse x = Sentences.withHearth();
        Sentences.each("what", BAD, x::hearth, -1, 4, LEAST, MOST);
        Sentences.row("the first and the last", Sentences.hearth(x), 90, 35, 75, 214);
    }

    @Sentences.Says(at = "Promise 16", words = "BAD;")
    static void p16Bad() {
        BurdenHouse x = Sentences.withHearth();
        Sentences.each("cast", BAD, x::cast, 0, -1, 10000, LEAST, MOST);
        Sentences.row("as before", Sentences.hearth(x), 90, 35, 75, 214);
        Sentences.due("1", x.cast(1), 89);
        Sentences.due("9999 may be told", x.cast(9999), NO);
        BurdenHouse y = Sentences.withMuchIron();
        int iron = y.hearth(0);
        Sentences.due("10000", y.cast(10000), BAD);
        Sentences.due("9999", y.cast(9999), iron - 9999);
    }

    @Sentences.Says(at = "Promise 16", words = "NO: there is less.")
    static void p16No() {
        BurdenHouse x = Sentences.withHearth();
        Sentences.due("91 of 90", x.cast(91), NO);
        Sentences.row("as before", Sentences.hearth(x), 90, 35, 75, 214);
        Sentences.due("89 of 90", x.cast(89), 1);
        Sentences.due("2 of 1", x.cast(2), NO);
        Sentences.due("1 of 1", x.cast(1), 0);
        Sentences.due("1 of 0", x.cast(1), NO);
        Sentences.due("of a new object", new BurdenHouse().cast(1), NO);
    }

    @Sentences.Says(at = "Promise 17", words = "BAD;")
    static void p17Bad() {
        BurdenHouse x = Sentences.withStuffInRing(4);
        Sentences.due("no layer", x.down(0), BAD);
        x.rule(1, 0);
        x.charge(0, 1);
        x.charge(0, 1);
        Sentences.each("layer", BAD, x::down, -1, 2, 24, LEAST, MOST);
        Sentences.row("layers", Sentences.answers(2, x::down), 0, 1);
    }

    @Sentences.Says(at = "Promise 17", words = "NONE: not within 60.")
    static void p17None() {
        BurdenHouse x = Sentences.withStuffInRing(4);
        x.rule(1, 0);
        x.charge(0, 59);
        x.charge(0, 1);
        x.charge(0, 1);
        Sentences.row("layers", Sentences.answers(3, x::down), 58, 59, NONE);
        x.run(1);
        Sentences.due("an hour later", x.down(2), 60);
    }

    // ---- programs

    @Sentences.Says(at = "Promise 18", words = {"Twelve bytes come to THE TAPE, the highest of each number first", "FULL: it would have more than 96."})
    static void p18Full() {
        BurdenHouse x = new BurdenHouse();
        for (int i = 1; i <= 8; i++) {
            Sentences.due("feed", x.feed(i, i, i), 12 * i);
        }
        Sentences.due("108", x.feed(1, 2, 3), FULL);
        Sentences.due("as before", x.count(8), 96);
        x.trim(85);
        Sentences.due("97", x.feed(1, 2, 3), FULL);
        Sentences.due("as before", x.count(8), 85);
        x.trim(84);
        Sentences.due("96 itself", x.feed(1, 2, 3), 96);
        // "gas 12345678": twelve bytes of three numbers, and of "gas 1+2" the highest byte first
        BurdenHouse y = new BurdenHouse();
        y.feed(0x67617320, 0x312b3220, 0x20202020);
        Sentences.due("text", y.text(), 0);
        Sentences.due("gas 1+2", Arrays.stream(Sentences.rings(y, 2)).sum(), 3);
        y.feed(0x67617320, 0xb5202020, 0x20202020);
        Sentences.due("the highest bit of a byte, too", y.text(), -104);
    }

    @Sentences.Says(at = "Promise 19", words = {"THE TAPE keeps its first n bytes: n.", "BAD."})
    static void p19Bad() {
        BurdenHouse x = new BurdenHouse();
        Sentences.due("nothing of nothing", x.trim(0), 0);
        Sentences.due("above nothing", x.trim(1), BAD);
        x.feed(0x67617320, 0x35202020, 0x682b2b2b);
        Sentences.each("trim", BAD, x::trim, -1, 13, 96, 97, LEAST, MOST);
        Sentences.due("as before", x.count(8), 12);
        Sentences.due("all", x.trim(12), 12);
        Sentences.due("the first ones", x.trim(8), 8);
        Sentences.due("gone for good", x.trim(9), BAD);
        Sentences.due("text of the first ones", x.text(), 0);
        x.feed(0, 0, 0);
        Sentences.due("none", x.trim(0), 0);
        Sentences.due("none is there", x.text(), -100);
    }

    @Sentences.Says(at = "Promise 20", words = {"THE TAPE is a TEXT: its number. -100 less the place of its FAULT;"})
    static void p20Fault() {
        Sentences.faultAt(0, "");
        Sentences.faultAt(0, "x");
        StringBuilder longest = new StringBuilder("gas h");
        while (longest.length() < 95) {
            longest.append("+1");
        }
        Sentences.faultAt(95, longest + ")");
        Sentences.faultAt(96, longest + "+");
        BurdenHouse x = new BurdenHouse();
        Sentences.due("no text came to be", Sentences.read(x, "gas"), -103);
        Sentences.due("no text came to be", x.count(3), 0);
        Sentences.due("the first number", Sentences.read(x, "gas 1"), 0);
    }

    @Sentences.Says(at = "Promise 20", words = "FULL.")
    static void p20Full() {
        BurdenHouse x = new BurdenHouse();
        for (int i = 0; i < 12; i++) {
            Sentences.due("text", Sentences.read(x, "gas " + (i + 1)), i);
        }
        Sentences.due("the 13th", Sentences.read(x, "gas 99"), FULL);
        Sentences.due("as before", x.count(3), 12);
        Sentences.due("as before", x.why(1, 0), 11);
        Sentences.due("as before", Arrays.stream(Sentences.rings(x, 2)).sum(), 12);
    }

    @Sentences.Says(at = "Promise 21", words = "1 its BIN (NONE)")
    static void p21NoBin() {
        BurdenHouse x = new BurdenHouse();
        Sentences.read(x, "draw 0 h");
        Sentences.read(x, "gas h");
        Sentences.read(x, "late h");
        Sentences.read(x, "draw 5 h");
        Sentences.row("keys", Sentences.answers(4, text -> x.textTold(text, 0)), 0, 1, 2, 0);
        Sentences.row("bins", Sentences.answers(4, text -> x.textTold(text, 1)), 0, NONE, NONE, 5);
    }

    @Sentences.Says(at = "Promise 21", words = "2 how many NUMBERS and NAMES it has (B not)")
    static void p21BinIsNoNumber() {
        BurdenHouse x = new BurdenHouse();
        Sentences.read(x, "draw 0 h");
        Sentences.read(x, "draw 5 1+2*h+(0005)");
        Sentences.read(x, "gas !!(!(0))");
        Sentences.row("pieces", Sentences.answers(3, text -> x.textTold(text, 2)), 1, 4, 1);
    }

    @Sentences.Says(at = "Promise 21", words = "BAD.")
    static void p21Bad() {
        BurdenHouse x = new BurdenHouse();
        Sentences.due("no text", x.textTold(0, 0), BAD);
        for (int i = 0; i < 12; i++) {
            Sentences.due("no text " + i, x.textTold(i, 0), BAD);
            Sentences.read(x, "late " + i);
        }
        Sentences.each("text", BAD, text -> x.textTold(text, 0), -1, 12, LEAST, MOST);
        Sentences.each("what", BAD, what -> x.textTold(0, what), -1, 3, LEAST, MOST);
        Sentences.due("the last of the last", x.textTold(11, 2), 1);
    }

    @Sentences.Says(at = "Promise 22", words = {"key 0 for a BIN (0 .. 5), 1, 2 (the BIN does not matter).", "BAD;"})
    static void p22Bad() {
        BurdenHouse x = new BurdenHouse();
        Sentences.read(x, "draw 5 1");
        Sentences.read(x, "gas 1");
        Sentences.read(x, "late 1");
        Sentences.read(x, "draw 0 1");
        Sentences.each("key", BAD, key -> x.why(key, 0), -1, 3, LEAST, MOST);
        Sentences.each("bin", BAD, bin -> x.why(0, bin), -1, 6, LEAST, MOST);
        Sentences.each("bin does not matter", 1, bin -> x.why(1, bin), -1, 0, 5, 6, LEAST, MOST);
        Sentences.each("bin does not matter", 2, bin -> x.why(2, bin), -1, 0, 5, 6, LEAST, MOST);
        Sentences.row("bins that are not there, too", Sentences.answers(6, bin -> x.why(0, bin)), 3, NONE, NONE, NONE, NONE, 0);
    }

    @Sentences.Says(at = "Promise 22", words = "NONE.")
    static void p22None() {
        BurdenHouse x = new BurdenHouse();
        Sentences.row("no text", Sentences.answers(3, key -> x.why(key, 0)), NONE, NONE, NONE);
        Sentences.read(x, "draw 3 h");
        Sentences.row("of another bin", Sentences.answers(6, bin -> x.why(0, bin)), NONE, NONE, NONE, 0, NONE, NONE);
        Sentences.row("of another key", Sentences.answers(2, key -> x.why(key + 1, 3)), NONE, NONE);
    }

    // ---- burdens, ladles

    @Sentences.Says(at = "Promise 23", words = "BAD;")
    static void p23Bad() {
        BurdenHouse x = new BurdenHouse();
        Sentences.due("no bin", x.choose(0), BAD);
        x.bin(STUFF, 0, 0);
        Sentences.each("bin", BAD, x::choose, -1, 1, 5, 6, LEAST, MOST);
        Sentences.due("as before", x.count(4), 0);
        Sentences.due("choose", x.choose(0), 1);
        Sentences.due("the last", withSixBins(0).choose(5), 1);
    }

    @Sentences.Says(at = "Promise 23", words = "NO: it is;")
    static void p23No() {
        BurdenHouse x = withSixBins(0);
        x.choose(2);
        Sentences.due("it is", x.choose(2), NO);
        x.choose(0);
        Sentences.due("it is", x.choose(2), NO);
        Sentences.due("it is", x.choose(0), NO);
        Sentences.due("as before", x.count(4), 2);
        x.clear();
        Sentences.due("it is no longer", x.choose(2), 1);
    }

    @Sentences.Says(at = "Promise 23", words = "FULL: 3 are.")
    static void p23Full() {
        BurdenHouse x = withSixBins(0);
        for (int i = 0; i < 3; i++) {
            Sentences.due("choose", x.choose(i), i + 1);
        }
        Sentences.due("a fourth", x.choose(3), FULL);
        Sentences.due("as before", x.count(4), 3);
        Sentences.due("no fourth", x.burden(0, 999, 3), BAD);
        x.clear();
        Sentences.due("room again", x.choose(3), 1);
    }

    @Sentences.Says(at = "Promise 24", words = "No BIN is told any more: how many were.")
    static void p24Clear() {
        BurdenHouse x = withSixBins(0);
        Sentences.due("none were", x.clear(), 0);
        for (int i = 0; i < 3; i++) {
            x.choose(i);
        }
        Sentences.due("3 were", x.clear(), 3);
        Sentences.due("none are", x.count(4), 0);
        Sentences.due("none were", x.clear(), 0);
    }

    @Sentences.Says(at = "Promise 25", words = {"IRON need (0 .. 9999), ends (1000 times the least, and the greatest; 0 .. 999 each)", "what -1 PRICE, 0 .. 2 tens of tons of the i-th told.", "BAD: need, ends (the least above the greatest, too), what (of told ones alone);"})
    static void p25Bad() {
        BurdenHouse x = withSixBins(0);
        x.choose(1);
        x.choose(5);
        Sentences.each("need", BAD, need -> x.burden(need, 999, -1), -1, 10000, LEAST, MOST);
        Sentences.each("ends", BAD, ends -> x.burden(0, ends, -1), -1, 1000000, LEAST, MOST);
        Sentences.each("the least above the greatest", BAD, ends -> x.burden(0, ends, -1), 1000, 6005, 999998, 999000);
        Sentences.each("what", BAD, what -> x.burden(0, 999, what), -2, 2, 3, LEAST, MOST);
        Sentences.each("like ends", 0, ends -> x.burden(0, ends, -1), 0);
        Sentences.each("like ends that nothing meets", NONE, ends -> x.burden(0, ends, -1), 999999);
        Sentences.due("the greatest need", x.burden(9999, 999, -1), NONE);
        Sentences.row("told ones", Sentences.answers(3, i -> x.burden(0, 999, i - 1)), 0, 0, 0);
        x.clear();
        Sentences.each("of no told ones", BAD, what -> x.burden(0, 999, what), 0, -2);
        Sentences.due("PRICE of nothing", x.burden(0, 999, -1), 0);
    }

    @Sentences.Says(at = "Promise 25", words = "NONE: there is none.")
    static void p25None() {
        // ORE of SHARE 50: 45 IRON of 90 tons, BASIC 0
        BurdenHouse x = withSixBins(0);
        x.choose(1);
        Sentences.row("45", Sentences.answers(2, i -> x.burden(45, 999, i - 1)), 90, 9);
        Sentences.row("46", Sentences.answers(2, i -> x.burden(46, 999, i - 1)), NONE, NONE);
        Sentences.row("within other ends", Sentences.answers(2, i -> x.burden(1, 1999, i - 1)), NONE, NONE);
    }

    @Sentences.Says(at = "Promise 26", words = "BAD;")
    static void p26Bad() {
        BurdenHouse x = new BurdenHouse();
        Sentences.each("cap", BAD, x::ladle, 0, -1, 1000, LEAST, MOST);
        Sentences.due("as before", x.count(5), 0);
        Sentences.due("1", x.ladle(1), 0);
        Sentences.due("999", x.ladle(999), 1);
    }

    @Sentences.Says(at = "Promise 26", words = "FULL.")
    static void p26Full() {
        BurdenHouse x = new BurdenHouse();
        for (int i = 0; i < 6; i++) {
            Sentences.due("ladle", x.ladle(9), i);
        }
        Sentences.due("the seventh", x.ladle(9), FULL);
        Sentences.due("as before", x.count(5), 6);
        Sentences.due("as before", x.backAt(6), BAD);
    }

    @Sentences.Says(at = "Promise 27", words = "(above 99999: 99999)")
    static void p27Above() {
        // a filling of 1 ton each 1000 minutes: from 0, the k-th ends at 1000k - 999 and is back at 1000k
        BurdenHouse x = new BurdenHouse();
        x.bin(ORE, 9900, 9999);
        x.turns(0, 13579);
        x.rule(1, 999);
        x.charge(0, 999);
        x.run(60);
        Sentences.due("iron enough", x.hearth(0) > 103 ? 1 : 0, 1);
        x.ladle(1);
        x.rule(2, 999);
        Sentences.due("99 fillings", x.pour(99, 0), 98 * 999);
        Sentences.due("below", x.backAt(0), 99000);
        x.rule(2, 998);
        Sentences.due("from its own minute on", x.pour(1, 9999), 99000 - 9999);
        Sentences.due("99999 itself", x.backAt(0), 99999);
        x.rule(2, 1);
        Sentences.due("from its own minute on", x.pour(1, 9999), 99999 - 9999);
        Sentences.due("100001", x.backAt(0), 99999);
        Sentences.due("kept in full", x.pour(1, 9999), 100001 - 9999);
        Sentences.due("100003", x.backAt(0), 99999);
    }

    @Sentences.Says(at = "Promise 27", words = "BAD.")
    static void p27Bad() {
        BurdenHouse x = new BurdenHouse();
        Sentences.due("no ladle", x.backAt(0), BAD);
        x.ladle(5);
        x.ladle(5);
        Sentences.each("ladle", BAD, x::backAt, -1, 2, 6, LEAST, MOST);
        Sentences.row("ladles", Sentences.answers(2, x::backAt), 0, 0);
    }

    @Sentences.Says(at = "Promise 28", words = {"A POUR of n (1 .. 9999) from a minute (0 .. 9999) on: LATE.", "BAD;"})
    static void p28Bad() {
        BurdenHouse x = Sentences.withHearth();
        x.ladle(99);
        Sentences.each("iron", BAD, n -> x.pour(n, 0), 0, -1, 10000, LEAST, MOST);
        Sentences.each("minute", BAD, minute -> x.pour(1, minute), -1, 10000, LEAST, MOST);
        Sentences.due("as before", x.hearth(0), 90);
        Sentences.due("as before", x.backAt(0), 0);
        Sentences.due("9999 may be told", x.pour(9999, 0), NO);
        Sentences.due("1 from 0 on", x.pour(1, 0), 0);
        Sentences.due("1 from 9999 on", x.pour(1, 9999), 0);
        Sentences.due("back", x.backAt(0), 10060);
        // eleven fillings, 60 minutes between them
        BurdenHouse y = Sentences.withMuchIron();
        int iron = y.hearth(0);
        y.ladle(999);
        Sentences.due("10000", y.pour(10000, 9999), BAD);
        Sentences.due("9999 from 9999 on", y.pour(9999, 9999), 600);
        Sentences.due("back", y.backAt(0), 9999 + 9999 + 600 + 60);
        Sentences.due("iron", y.hearth(0), iron - 9999);
    }

    @Sentences.Says(at = "Promise 28", words = "NO: there are no LADLES, or less IRON.")
    static void p28No() {
        BurdenHouse x = Sentences.withHearth();
        Sentences.due("no ladles", x.pour(1, 0), NO);
        Sentences.row("as before", Sentences.hearth(x), 90, 35, 75, 214);
        x.ladle(99);
        Sentences.due("less iron", x.pour(91, 0), NO);
        Sentences.row("as before", Sentences.hearth(x), 90, 35, 75, 214);
        Sentences.due("as before", x.backAt(0), 0);
        Sentences.due("all", x.pour(90, 0), 0);
        Sentences.due("no iron", x.pour(1, 0), NO);
    }

    // ---- sheets, slots

    @Sentences.Says(at = "Promise 29", words = "A SHEET becomes a row of n places of a sort, all 0 (sort -1: MISSING, n any; 0): n.")
    static void p29NewAndMissing() {
        BurdenHouse x = new BurdenHouse();
        x.sheet(0, 1, 3);
        Sentences.marks(x, 0, 4, NONE, 5);
        Sentences.due("anew", x.sheet(0, 1, 3), 3);
        Sentences.row("all 0", Sentences.places(x, 0, 4), 0, 0, 0, INDEX);
        Sentences.due("fewer", x.sheet(0, 0, 1), 1);
        Sentences.due("more again", x.sheet(0, 0, 24), 24);
        Sentences.due("all 0", Arrays.stream(Sentences.places(x, 0, 24)).filter(v -> v == 0).count(), 24);
        x.mark(0, 23, 7);
        Sentences.due("fewer", x.sheet(0, 0, 1), 1);
        Sentences.due("more again", x.sheet(0, 0, 24), 24);
        Sentences.due("all 0", Arrays.stream(Sentences.places(x, 0, 24)).filter(v -> v == 0).count(), 24);
        for (int n : new int[] {-1, 0, 24, 25, LEAST, MOST}) {
            x.sheet(0, 0, 1);
            Sentences.due("missing, any n", x.sheet(0, -1, n), 0);
            Sentences.due("is missing", x.mark(0, 0, 0), NOTHING);
            Sentences.due("missing again", x.sheet(0, -1, n), 0);
        }
    }

    @Sentences.Says(at = "Promise 29", words = "BAD: sheet, sort, n above 24;")
    static void p29Bad() {
        BurdenHouse x = new BurdenHouse();
        Sentences.each("sheet", BAD, sheet -> x.sheet(sheet, 0, 1), -1, 4, LEAST, MOST);
        Sentences.each("sheet", BAD, sheet -> x.sheet(sheet, -1, 1), -1, 4, LEAST, MOST);
        Sentences.each("sort", BAD, sort -> x.sheet(0, sort, 1), -2, 2, LEAST, MOST);
        Sentences.each("places", BAD, n -> x.sheet(0, 0, n), 25, MOST);
        Sentences.each("places", BAD, n -> x.sheet(0, 1, n), 25, MOST);
        Sentences.due("still missing", x.mark(0, 0, 0), NOTHING);
        Sentences.due("24 itself", x.sheet(3, 1, 24), 24);
    }

    @Sentences.Says(at = "Promise 29", words = "SIZE.")
    static void p29Size() {
        BurdenHouse x = new BurdenHouse();
        x.sheet(0, 0, 2);
        x.mark(0, 1, 5);
        Sentences.each("shorts", SIZE, n -> x.sheet(0, 0, n), -1, LEAST);
        Sentences.each("floats", SIZE, n -> x.sheet(0, 1, n), -1, LEAST);
        Sentences.row("as before", Sentences.places(x, 0, 3), 0, 5, INDEX);
        Sentences.due("0 is a size", x.sheet(0, 1, 0), 0);
    }

    @Sentences.Says(at = "Promise 30", words = "(of shorts its lowest 16 bits, with a sign;")
    static void p30LowestBits() {
        BurdenHouse x = new BurdenHouse();
        x.sheet(0, 0, 9);
        Sentences.marks(x, 0, 32767, 32768, 65535, 65536, -1, -32768, -32769, LEAST, MOST);
        Sentences.row("shorts", Sentences.places(x, 0, 9), 32767, -32768, -1, 0, -1, -32768, 32767, 0, -1);
        Sentences.marks(x, 0, 100000, -100000, BAD);
        // -1000000001 is -15259 times 65536 and 13823
        Sentences.row("no ends, as of floats", Sentences.places(x, 0, 3), 100000 - 131072, 131072 - 100000, 13823);
    }

    @Sentences.Says(at = "Promise 30", words = {"of floats v, -99999 .. 99999;", "BAD: v of floats."})
    static void p30OfFloats() {
        BurdenHouse x = new BurdenHouse();
        x.sheet(0, 1, 3);
        Sentences.marks(x, 0, 99999, -99999, 7);
        Sentences.each("mark", BAD, v -> x.mark(0, 2, v), 100000, -100000, LEAST, MOST, NONE + 1, NONE - 1);
        Sentences.row("floats", Sentences.places(x, 0, 3), 99999, -99999, 7);
    }

    @Sentences.Says(at = "Promise 30", words = "NONE: NO NUMBER): 1.")
    static void p30NoNumber() {
        BurdenHouse x = new BurdenHouse();
        x.sheet(0, 1, 2);
        Sentences.marks(x, 0, 5, NONE);
        Sentences.row("no number", Sentences.places(x, 0, 2), 5, KIND);
        Sentences.marks(x, 0, NONE, NONE);
        Sentences.row("no numbers", Sentences.places(x, 0, 2), KIND, KIND);
        Sentences.marks(x, 0, 0, 6);
        Sentences.row("numbers again", Sentences.places(x, 0, 2), 0, 6);
    }

    @Sentences.Says(at = "Promise 30", words = "BAD: sheet;")
    static void p30Bad() {
        BurdenHouse x = new BurdenHouse();
        for (int i = 0; i < 4; i++) {
            x.sheet(i, 0, 1);
        }
        Sentences.each("sheet", BAD, sheet -> x.mark(sheet, 0, 0), -1, 4, LEAST, MOST);
        Sentences.each("sheet", 1, sheet -> x.mark(sheet, 0, 0), 0, 3);
    }

    @Sentences.Says(at = "Promise 30", words = "NOTHING;")
    static void p30Nothing() {
        BurdenHouse x = new BurdenHouse();
        Sentences.each("missing", NOTHING, sheet -> x.mark(sheet, 0, 0), 0, 1, 2, 3);
        x.sheet(0, 0, 0);
        Sentences.due("no places, but not missing", x.mark(0, 0, 0), INDEX);
    }

    @Sentences.Says(at = "Promise 30", words = "INDEX;")
    static void p30Index() {
        BurdenHouse x = new BurdenHouse();
        x.sheet(0, 0, 24);
        x.sheet(1, 1, 3);
        Sentences.each("shorts", INDEX, place -> x.mark(0, place, 5), -1, 24, LEAST, MOST);
        Sentences.each("floats", INDEX, place -> x.mark(1, place, 5), -1, 3, 23, LEAST, MOST);
        Sentences.each("the ends", 1, place -> x.mark(0, place, 5), 0, 23);
        Sentences.each("the ends", 1, place -> x.mark(1, place, 5), 0, 2);
    }

    @Sentences.Says(at = "Promise 30", words = "KIND: NONE in a row of shorts;")
    static void p30Kind() {
        BurdenHouse x = new BurdenHouse();
        x.sheet(0, 0, 1);
        x.mark(0, 0, 8);
        Sentences.due("no number", x.mark(0, 0, NONE), KIND);
        Sentences.row("as before", Sentences.places(x, 0, 1), 8);
        Sentences.due("near it", x.mark(0, 0, NONE + 1), 1);
    }

    @Sentences.Says(at = "Promise 31", words = {"1 SLIPS by n (0 .. 9999; of HANGS it does not matter).", "BAD: sheet, what, n;"})
    static void p31Bad() {
        BurdenHouse x = new BurdenHouse();
        for (int i = 0; i < 4; i++) {
            x.sheet(i, 0, 2);
        }
        x.mark(3, 0, 10000);
        Sentences.each("sheet", BAD, sheet -> x.sound(sheet, 0, 0), -1, 4, LEAST, MOST);
        Sentences.each("what", BAD, what -> x.sound(0, what, 0), -1, 2, LEAST, MOST);
        Sentences.each("slips by n", BAD, n -> x.sound(0, 1, n), -1, 10000, LEAST, MOST);
        Sentences.each("hangs by any n", 1, n -> x.sound(0, 0, n), -1, 0, 10000, LEAST, MOST);
        Sentences.each("slips", 1, n -> x.sound(3, 1, n), 0, 9999);
    }

    @Sentences.Says(at = "Promise 31", words = "NOTHING.")
    static void p31Nothing() {
        BurdenHouse x = new BurdenHouse();
        Sentences.each("hangs", NOTHING, sheet -> x.sound(sheet, 0, 0), 0, 1, 2, 3);
        Sentences.each("slips", NOTHING, sheet -> x.sound(sheet, 1, 0), 0, 1, 2, 3);
        x.sheet(0, 0, 0);
        Sentences.due("no places: no row", x.sound(0, 0, 0), 0);
        Sentences.due("no places: no slip", x.sound(0, 1, 0), 0);
    }

    @Sentences.Says(at = "Promise 32", words = {"(of shorts the lowest 16 bits)"})
    static void p32LowestBits() {
        BurdenHouse x = Sentences.withStuffInRing(0);
        for (int i = 0; i < 2; i++) {
            x.charge(0, 999);
        }
        int[] tops = Sentences.rings(x, 0);
        Sentences.due("above 16 bits", tops[0] > 65536 ? 1 : 0, 1);
        x.sheet(0, 0, 5);
        x.sheet(1, 1, 5);
        x.mark(1, 3, NONE);
        x.tops(0, 0);
        x.tops(1, 0);
        Sentences.row("floats have all of it", Sentences.places(x, 1, 5), tops);
        Sentences.row("shorts have the lowest bits", Sentences.places(x, 0, 5), Sentences.answers(5, i -> (short) tops[i]));
    }

    @Sentences.Says(at = "Promise 32", words = "come to places of a SHEET from one on (of shorts the lowest 16 bits), as far as it has some: how many.")
    static void p32AsFar() {
        BurdenHouse x = Sentences.withBin(STUFF, 0, 9999);
        x.rule(0, 999);
        x.turns(0, 97531);
        x.charge(0, 25);
        x.sheet(0, 1, 7);
        Sentences.row("how many", Sentences.answers(7, place -> x.tops(0, place)), 5, 5, 5, 4, 3, 2, 1);
        Sentences.marks(x, 0, 1, 2, 3, 4, 5, 6, 7);
        Sentences.due("from 4 on", x.tops(0, 4), 3);
        Sentences.row("the others stay", Sentences.places(x, 0, 7), 1, 2, 3, 4, 900, 233, 100);
        Sentences.due("from 1 on", x.tops(0, 1), 5);
        Sentences.row("the others stay", Sentences.places(x, 0, 7), 1, 900, 233, 100, 42, 11, 100);
    }

    @Sentences.Says(at = "Promise 32", words = "BAD: sheet;")
    static void p32Bad() {
        BurdenHouse x = new BurdenHouse();
        x.sheet(0, 0, 1);
        x.sheet(3, 0, 1);
        Sentences.each("sheet", BAD, sheet -> x.tops(sheet, 0), -1, 4, LEAST, MOST);
        Sentences.each("sheet", 1, sheet -> x.tops(sheet, 0), 0, 3);
    }

    @Sentences.Says(at = "Promise 32", words = "NOTHING;")
    static void p32Nothing() {
        BurdenHouse x = new BurdenHouse();
        Sentences.each("missing", NOTHING, sheet -> x.tops(sheet, 0), 0, 1, 2, 3);
        x.sheet(2, 0, 1);
        Sentences.due("not missing", x.tops(2, 0), 1);
    }

    @Sentences.Says(at = "Promise 32", words = "INDEX: there is no such place.")
    static void p32Index() {
        BurdenHouse x = new BurdenHouse();
        x.sheet(0, 0, 3);
        x.sheet(1, 0, 0);
        x.mark(0, 2, 9);
        Sentences.each("place", INDEX, place -> x.tops(0, place), -1, 3, 24, LEAST, MOST);
        Sentences.due("no places", x.tops(1, 0), INDEX);
        Sentences.row("as before", Sentences.places(x, 0, 3), 0, 0, 9);
        Sentences.due("the last", x.tops(0, 2), 1);
    }

    @Sentences.Says(at = "Promise 33", words = "So many places of a SHEET come to another one (or the same), as they were: many.")
    static void p33AsTheyWere() {
        BurdenHouse x = new BurdenHouse();
        x.sheet(0, 1, 5);
        Sentences.marks(x, 0, 1, NONE, 3, 4, 5);
        Sentences.due("to the right", x.copy(0, 0, 0, 1, 4), 4);
        Sentences.row("as they were", Sentences.places(x, 0, 5), 1, 1, KIND, 3, 4);
        Sentences.due("to the left", x.copy(0, 1, 0, 0, 4), 4);
        Sentences.row("as they were", Sentences.places(x, 0, 5), 1, KIND, 3, 4, 4);
        Sentences.due("to itself", x.copy(0, 0, 0, 0, 5), 5);
        Sentences.row("as they were", Sentences.places(x, 0, 5), 1, KIND, 3, 4, 4);
        x.sheet(1, 1, 2);
        x.mark(1, 1, NONE);
        Sentences.due("to another one", x.copy(0, 1, 1, 0, 2), 2);
        Sentences.row("as they were", Sentences.places(x, 1, 2), KIND, 3);
    }

    @Sentences.Says(at = "Promise 33", words = "BAD;")
    static void p33Bad() {
        BurdenHouse x = new BurdenHouse();
        x.sheet(0, 0, 1);
        x.sheet(3, 0, 1);
        Sentences.each("from", BAD, from -> x.copy(from, 0, 0, 0, 1), -1, 4, LEAST, MOST);
        Sentences.each("to", BAD, to -> x.copy(0, 0, to, 0, 1), -1, 4, LEAST, MOST);
        Sentences.due("the last", x.copy(3, 0, 0, 0, 1), 1);
        Sentences.due("the last", x.copy(0, 0, 3, 0, 1), 1);
    }

    @Sentences.Says(at = "Promise 33", words = "NOTHING;")
    static void p33Nothing() {
        BurdenHouse x = new BurdenHouse();
        x.sheet(0, 0, 1);
        Sentences.due("from", x.copy(1, 0, 0, 0, 0), NOTHING);
        Sentences.due("to", x.copy(0, 0, 1, 0, 0), NOTHING);
        Sentences.due("both", x.copy(1, 0, 2, 0, 0), NOTHING);
        x.sheet(1, 0, 0);
        Sentences.due("not missing", x.copy(1, 0, 0, 0, 0), 0);
    }

    @Sentences.Says(at = "Promise 33", words = "KIND: they are not of one sort;")
    static void p33Kind() {
        BurdenHouse x = new BurdenHouse();
        x.sheet(0, 0, 1);
        x.sheet(1, 1, 1);
        x.mark(0, 0, 8);
        Sentences.due("shorts to floats", x.copy(0, 0, 1, 0, 1), KIND);
        Sentences.due("floats to shorts", x.copy(1, 0, 0, 0, 1), KIND);
        Sentences.due("none of them, too", x.copy(1, 0, 0, 0, 0), KIND);
        Sentences.row("as before", Sentences.places(x, 1, 1), 0);
        Sentences.row("as before", Sentences.places(x, 0, 1), 8);
    }

    @Sentences.Says(at = "Promise 33", words = "INDEX (many below 0, too; 0 places may stand at the end).")
    static void p33Index() {
        BurdenHouse x = new BurdenHouse();
        x.sheet(0, 0, 5);
        x.sheet(1, 0, 3);
        Sentences.marks(x, 0, 1, 2, 3, 4, 5);
        Sentences.each("many", INDEX, many -> x.copy(0, 0, 1, 0, many), -1, 4, 6, LEAST, MOST);
        Sentences.each("many from one on", INDEX, many -> x.copy(0, 4, 1, 0, many), -1, 2, LEAST, MOST);
        Sentences.each("many to one on", INDEX, many -> x.copy(0, 0, 1, 2, many), -1, 2, LEAST, MOST);
        Sentences.each("none from", INDEX, place -> x.copy(0, place, 1, 0, 0), -1, 6, LEAST, MOST);
        Sentences.each("none to", INDEX, at -> x.copy(0, 0, 1, at, 0), -1, 4, LEAST, MOST);
        Sentences.due("below 0 at the end", x.copy(0, 5, 1, 3, -1), INDEX);
        Sentences.each("very many from behind the first", INDEX, many -> x.copy(0, 4, 1, 2, many), 2, LEAST, MOST);
        Sentences.row("as before", Sentences.places(x, 1, 3), 0, 0, 0);
        Sentences.due("none at the end", x.copy(0, 5, 1, 3, 0), 0);
        Sentences.due("the last to the last", x.copy(0, 4, 1, 2, 1), 1);
        Sentences.due("all", x.copy(0, 2, 1, 0, 3), 3);
        Sentences.row("all", Sentences.places(x, 1, 3), 3, 4, 5);
        x.sheet(2, 0, 0);
        Sentences.due("none of none", x.copy(2, 0, 2, 0, 0), 0);
        Sentences.due("one of none", x.copy(2, 0, 2, 0, 1), INDEX);
    }

    @Sentences.Says(at = "Promise 34", words = "what it held (0 .. 3).")
    static void p34Held() {
        BurdenHouse x = Sentences.withBin(STUFF, 0, 0);
        x.sheet(0, 0, 1);
        int[] things = {0, 1, 2, 3, 3, 2, 1, 1, 2, 2, 0, 3, 0};
        int held = 0;
        for (int thing : things) {
            Sentences.due("what it held", x.lay(4, thing, 0), held);
            held = thing;
        }
    }

    @Sentences.Says(at = "Promise 34", words = "BAD: slot, thing, k;")
    static void p34Bad() {
        BurdenHouse x = Sentences.withBin(STUFF, 0, 0);
        x.sheet(0, 0, 1);
        x.sheet(3, 0, 1);
        Sentences.each("slot", BAD, slot -> x.lay(slot, 3, 0), -1, 5, LEAST, MOST);
        Sentences.each("thing", BAD, thing -> x.lay(0, thing, 0), -1, 4, LEAST, MOST);
        Sentences.each("bin", BAD, bin -> x.lay(0, 1, bin), -1, 1, 5, 6, LEAST, MOST);
        Sentences.each("sheet", BAD, sheet -> x.lay(0, 2, sheet), -1, 4, LEAST, MOST);
        Sentences.each("any k for nothing", 0, k -> x.lay(0, 0, k), -1, 6, LEAST, MOST);
        Sentences.due("any number", x.lay(0, 3, LEAST), 0);
        Sentences.due("any number", x.lay(0, 3, MOST), 3);
        Sentences.due("the last sheet", x.lay(4, 2, 3), 0);
    }

    @Sentences.Says(at = "Promise 34", words = "NOTHING: that SHEET is MISSING.")
    static void p34Nothing() {
        BurdenHouse x = new BurdenHouse();
        x.lay(0, 3, 17);
        Sentences.each("sheet", NOTHING, sheet -> x.lay(0, 2, sheet), 0, 1, 2, 3);
        Sentences.due("as before", x.rest(0, 5), 2);
        x.sheet(1, 1, 0);
        Sentences.due("no places, but not missing", x.lay(0, 2, 1), 3);
    }

    @Sentences.Says(at = "Promise 35", words = "ACID of 100 tons of the STUFF in a SLOT, taken for one of a KIND (0 .. 5; its own ACID).")
    static void p35OwnAcid() {
        BurdenHouse x = new BurdenHouse();
        x.bin(SINTER, 100, 0);
        x.bin(SMALL, 0, 0);
        x.bin(FLUX, 9900, 0);
        x.bin(SINTER, 5000, 0);
        for (int i = 0; i < 4; i++) {
            x.lay(i, 1, i);
        }
        // SINTER of SHARE 1 has no IRON: 10 + 100/4; ORE would have 34, STUFF 10
        Sentences.row("SINTER", Sentences.answers(6, kind -> x.ask(0, kind)), 35, 35, KIND, 35, KIND, KIND);
        Sentences.row("SMALL", Sentences.answers(6, kind -> x.ask(1, kind)), 10, KIND, 10, KIND, 10, KIND);
        Sentences.row("FLUX", Sentences.answers(6, kind -> x.ask(2, kind)), 0, KIND, KIND, KIND, KIND, 0);
        // 10 + 55/4; ORE would have 22
        Sentences.row("SINTER of 50", Sentences.answers(6, kind -> x.ask(3, kind)), 23, 23, KIND, 23, KIND, KIND);
    }

    @Sentences.Says(at = "Promise 35", words = "BAD;")
    static void p35Bad() {
        BurdenHouse x = Sentences.withBin(STUFF, 0, 0);
        x.lay(0, 1, 0);
        x.lay(4, 1, 0);
        Sentences.each("slot", BAD, slot -> x.ask(slot, 0), -1, 5, LEAST, MOST);
        Sentences.each("kind", BAD, kind -> x.ask(0, kind), -1, 6, LEAST, MOST);
        Sentences.each("slots", 10, slot -> x.ask(slot, 0), 0, 4);
    }

    @Sentences.Says(at = "Promise 35", words = "NOTHING;")
    static void p35Nothing() {
        BurdenHouse x = Sentences.withBin(STUFF, 0, 0);
        Sentences.each("slot", NOTHING, slot -> x.ask(slot, 0), 0, 1, 2, 3, 4);
        x.lay(3, 1, 0);
        Sentences.due("stuff", x.ask(3, 0), 10);
        x.lay(3, 0, 0);
        Sentences.due("nothing again", x.ask(3, 0), NOTHING);
    }

    @Sentences.Says(at = "Promise 35", words = "KIND: it is no STUFF, or not of that KIND, nor of one under it.")
    static void p35Kind() {
        BurdenHouse x = Sentences.withBin(ORE, 5000, 0);
        x.sheet(0, 0, 1);
        x.lay(0, 2, 0);
        x.lay(1, 3, 5);
        x.lay(2, 1, 0);
        Sentences.row("a SHEET, a number, STUFF", Sentences.answers(3, slot -> x.ask(slot, 0)), KIND, KIND, 22);
        Sentences.row("ORE", Sentences.answers(6, kind -> x.ask(2, kind)), 22, 22, KIND, KIND, KIND, KIND);
    }

    @Sentences.Says(at = "Promise 36", words = "BAD: slot;")
    static void p36Bad() {
        BurdenHouse x = new BurdenHouse();
        x.sheet(0, 0, 1);
        x.lay(0, 2, 0);
        x.lay(4, 2, 0);
        Sentences.each("slot", BAD, slot -> x.item(slot, 0), -1, 5, LEAST, MOST);
        Sentences.each("slots", 0, slot -> x.item(slot, 0), 0, 4);
    }

    @Sentences.Says(at = "Promise 36", words = "NOTHING;")
    static void p36Nothing() {
        BurdenHouse x = new BurdenHouse();
        Sentences.each("slot", NOTHING, slot -> x.item(slot, 0), 0, 1, 2, 3, 4);
        x.lay(0, 3, 1);
        x.lay(0, 0, 1);
        Sentences.due("nothing again", x.item(0, 0), NOTHING);
    }

    @Sentences.Says(at = "Promise 36", words = "KIND: it is no SHEET;")
    static void p36NoSheet() {
        BurdenHouse x = Sentences.withBin(STUFF, 0, 0);
        x.sheet(0, 0, 1);
        x.lay(0, 1, 0);
        x.lay(1, 3, 0);
        x.lay(2, 2, 0);
        Sentences.row("STUFF, a number, a SHEET", Sentences.answers(3, slot -> x.item(slot, 0)), KIND, KIND, 0);
        x.lay(2, 3, 0);
        Sentences.due("no longer", x.item(2, 0), KIND);
    }

    @Sentences.Says(at = "Promise 36", words = "INDEX;")
    static void p36Index() {
        BurdenHouse x = new BurdenHouse();
        x.sheet(0, 0, 24);
        x.lay(0, 2, 0);
        x.sheet(0, 0, 0);
        x.lay(1, 2, 0);
        x.sheet(0, 0, 24);
        Sentences.each("place", INDEX, place -> x.item(0, place), -1, 24, LEAST, MOST);
        Sentences.each("the ends", 0, place -> x.item(0, place), 0, 23);
        Sentences.each("no places", INDEX, place -> x.item(1, place), -1, 0, 23, MOST);
    }

    @Sentences.Says(at = "Promise 36", words = "KIND: NO NUMBER.")
    static void p36NoNumber() {
        BurdenHouse x = new BurdenHouse();
        x.sheet(0, 1, 3);
        Sentences.marks(x, 0, 5, NONE, -6);
        x.lay(0, 2, 0);
        Sentences.row("items", Sentences.answers(3, place -> x.item(0, place)), 5, KIND, -6);
        x.mark(0, 1, 7);
        Sentences.due("as it was", x.item(0, 1), KIND);
    }

    @Sentences.Says(at = "Promise 37", words = "BAD: slot;")
    static void p37Bad() {
        BurdenHouse x = new BurdenHouse();
        x.lay(0, 3, 9);
        x.lay(4, 3, 9);
        Sentences.each("slot", BAD, slot -> x.rest(slot, 5), -1, 5, LEAST, MOST);
        Sentences.each("slots", 4, slot -> x.rest(slot, 5), 0, 4);
    }

    @Sentences.Says(at = "Promise 37", words = "NOTHING;")
    static void p37Nothing() {
        BurdenHouse x = new BurdenHouse();
        Sentences.each("slot", NOTHING, slot -> x.rest(slot, 5), 0, 1, 2, 3, 4);
        x.lay(0, 3, 0);
        Sentences.due("the number 0 is not nothing", x.rest(0, 5), 0);
    }

    @Sentences.Says(at = "Promise 37", words = "KIND: it is no number;")
    static void p37Kind() {
        BurdenHouse x = Sentences.withBin(STUFF, 0, 0);
        x.sheet(0, 0, 1);
        x.lay(0, 1, 0);
        x.lay(1, 2, 0);
        x.lay(2, 3, 8);
        Sentences.row("STUFF, a SHEET, a number", Sentences.answers(3, slot -> x.rest(slot, 5)), KIND, KIND, 3);
    }

    @Sentences.Says(at = "Promise 37", words = {"The rest of the number in a SLOT by n.", "NO: n is 0."})
    static void p37No() {
        BurdenHouse x = new BurdenHouse();
        int[][] rests = {{17, 5, 2}, {17, -5, 2}, {-17, 5, -2}, {-17, -5, -2}, {0, 3, 0}, {LEAST, -1, 0}, {LEAST, LEAST, 0}, {LEAST, MOST, -1}, {MOST, LEAST, MOST}, {5, 1, 0}};
        for (int[] row : rests) {
            x.lay(0, 3, row[0]);
            Sentences.due("rest of " + row[0] + " by " + row[1], x.rest(0, row[1]), row[2]);
            Sentences.due("by 0", x.rest(0, 0), NO);
        }
    }

    // ---- rows, images

    @Sentences.Says(at = "Promise 38", words = "FULL: 60 wait.")
    static void p38Full() {
        BurdenHouse x = new BurdenHouse();
        x.keep();
        for (int i = 1; i <= 60; i++) {
            Sentences.due("tell", x.tell(0), i);
        }
        Sentences.due("the 61st", x.tell(1), FULL);
        Sentences.due("as before", x.count(7), 60);
        Sentences.due("as before: 30 hours of nothing", x.check(30), 0);
        Sentences.due("room again", x.tell(LEAST), 1);
    }

    @Sentences.Says(at = "Promise 39", words = "The numbers that wait (none do then, whatever is answered) are THE HOURS TOLD")
    static void p39NoneWait() {
        BurdenHouse x = new BurdenHouse();
        int[][] checks = {{0, BAD}, {31, BAD}, {1, NO}};
        for (int[] row : checks) {
            x.tell(0);
            Sentences.due("check", x.check(row[0]), row[1]);
            Sentences.due("none wait", x.count(7), 0);
        }
        x.keep();
        int[][] answers = {{1, 1, 2}, {2, 1, 0}, {3, 1, 3}, {2, 0, BAD}};
        for (int[] row : answers) {
            for (int i = 0; i < row[0]; i++) {
                x.tell(0);
            }
            Sentences.due("check", x.check(row[1]), row[2]);
            Sentences.due("none wait", x.count(7), 0);
        }
    }

    @Sentences.Says(at = "Promise 39", words = {"of n (1 .. 30), two by two: 0;", "BAD;"})
    static void p39Bad() {
        BurdenHouse x = new BurdenHouse();
        x.keep();
        Sentences.each("hours", BAD, x::check, 0, -1, 31, LEAST, MOST);
        x.tell(0);
        x.tell(0);
        Sentences.due("1 hour", x.check(1), 0);
        for (int i = 0; i < 60; i++) {
            x.tell(0);
        }
        Sentences.due("30 hours", x.check(30), 0);
    }

    @Sentences.Says(at = "Promise 39", words = "else 1 and how many stand right ahead of the first that is not (or is missing, or one too many).")
    static void p39FirstThatIsNot() {
        // ORE: BULK 6 in each ring, IRON 39; one of each ring in an hour
        BurdenHouse x = Sentences.withBin(ORE, 9900, 999);
        x.rule(0, 999);
        x.rule(1, 0);
        x.turns(0, 11111);
        x.charge(0, 40);
        x.keep();
        int[] told = {6, 25, 13, 20, 19, 15};
        for (int many = 6; many >= 0; many--) {
            tellFirst(x, told, many);
            Sentences.due("all there are: " + many, x.check(3), many == 6 ? 0 : many + 1);
        }
        for (int many = 0; many <= 6; many++) {
            tellFirst(x, told, many);
            x.tell(99);
            Sentences.due("a wrong one behind " + many, x.check(3), many + 1);
        }
        for (int at = 0; at < 6; at++) {
            int[] wrong = told.clone();
            wrong[at]++;
            tellFirst(x, wrong, 6);
            Sentences.due("the one that is not: " + at, x.check(3), at + 1);
        }
        tellFirst(x, told, 6);
        Sentences.due("too many: 4 too many", x.check(1), 3);
        tellFirst(x, told, 6);
        x.tell(26);
        Sentences.due("one too many, though right", x.check(3), 7);
    }

    private static void tellFirst(BurdenHouse x, int[] numbers, int many) {
        for (int i = 0; i < many; i++) {
            Sentences.due("tell", x.tell(numbers[i]), i + 1);
        }
    }

    @Sentences.Says(at = "Promise 39", words = "NO: there is no IMAGE.")
    static void p39No() {
        BurdenHouse x = new BurdenHouse();
        Sentences.each("no image", NO, x::check, 1, 30);
        x.tell(0);
        x.tell(0);
        Sentences.due("no image", x.check(1), NO);
        x.keep();
        x.tell(0);
        x.tell(0);
        Sentences.due("an image", x.check(1), 0);
    }

    @Sentences.Says(at = "Promise 40", words = "AN IMAGE is kept: the HOUR.")
    static void p40Keep() {
        BurdenHouse x = new BurdenHouse();
        Sentences.due("of a new object", x.keep(), 0);
        Sentences.runTo(x, 999);
        Sentences.due("another one instead", x.keep(), 999);
        Sentences.due("back to that", x.back(), 999);
    }

    @Sentences.Says(at = "Promise 41", words = "NO: there is none.")
    static void p41No() {
        BurdenHouse x = Sentences.withBin(STUFF, 0, 5);
        Sentences.due("no image", x.back(), NO);
        Sentences.due("as before", x.told(0, 3), 5);
        x.run(3);
        x.keep();
        x.run(4);
        Sentences.due("an image", x.back(), 3);
        Sentences.due("again", x.back(), 3);
    }

    @Sentences.Says(at = "Promise 42", words = "BAD.")
    static void p42Bad() {
        BurdenHouse x = withSixBins(99);
        Sentences.each("what", BAD, x::count, -1, 9, LEAST, MOST);
        x.charge(0, 5);
        x.charge(2, 5);
        x.charge(1, 3);
        Sentences.read(x, "late c");
        for (int i = 0; i < 3; i++) {
            x.choose(i);
        }
        x.ladle(1);
        x.ladle(1);
        for (int i = 0; i < 4; i++) {
            x.tell(i);
        }
        x.feed(0, 0, 0);
        Sentences.row("counts", Sentences.answers(9, x::count), 6, 3, 18, 1, 3, 2, 0, 4, 12);
    }
}
