import java.util.Arrays;

/** A test for each sentence of the document's terms (sections 1 to 5) that names an edge. Answers worked out by hand. */
public final class TermsTests {
    private static final int BAD = BurdenHouse.BAD, NO = BurdenHouse.NO, FULL = BurdenHouse.FULL, NONE = BurdenHouse.NONE,
        NOTHING = BurdenHouse.NOTHING, KIND = BurdenHouse.KIND, INDEX = BurdenHouse.INDEX, SIZE = BurdenHouse.SIZE;
    private static final int BULK = 0, IRON = 1, ACID = 2, LIME = 3;
    private static final int STUFF = 0, ORE = 1, COKE = 2, SINTER = 3, SMALL = 4, FLUX = 5;

    public static void main(String[] args) throws Exception {
        Sentences.run(TermsTests.class, "Section .*", args);
    }

    @Sentences.Says(at = "Use", words = "An object is used for at most 512 calls after it has been made")
    static void s0CallsAtMost() {
        BurdenHouse x = new BurdenHouse();
        for (int i = 1; i < 512; i++) {
            Sentences.due("call " + i, x.trim(0), 0);
        }
        Sentences.due("the 512th call", x.bin(0, 0, 0), 0);
    }

    // ---- section 1

    @Sentences.Says(at = "Section 1", words = "BINS, 6 at most, numbered from 0")
    static void s1BinsAtMost() {
        BurdenHouse x = new BurdenHouse();
        for (int i = 0; i < 6; i++) {
            Sentences.due("bin", x.bin(STUFF, 0, 0), i);
        }
        Sentences.due("the seventh", x.bin(STUFF, 0, 0), FULL);
        Sentences.due("count", x.count(0), 6);
    }

    @Sentences.Says(at = "Section 1", words = "each of a STUFF of a KIND: 0 STUFF; 1 ORE, 2 COKE, 5 FLUX, under STUFF; 3 SINTER, under ORE; 4 SMALL, under COKE (all are STUFFS)")
    static void s1Kinds() {
        int[][] above = {{STUFF}, {STUFF, ORE}, {STUFF, COKE}, {STUFF, ORE, SINTER}, {STUFF, COKE, SMALL}, {STUFF, FLUX}};
        for (int kind = 0; kind < 6; kind++) {
            BurdenHouse x = Sentences.withBin(kind, 0, 7);
            for (int asked = 0; asked < 6; asked++) {
                int wanted = asked;
                boolean is = Arrays.stream(above[kind]).anyMatch(k -> k == wanted);
                Sentences.due("kind " + kind + " as " + asked, x.as(0, asked), is ? 7 : KIND);
            }
        }
    }

    @Sentences.Says(at = "Section 1", words = "with a SHARE 0 .. 99, a PRICE 0 .. 99 (a ton), and TONS 0 .. 9999")
    static void s1ShareAndPriceAndTons() {
        BurdenHouse x = new BurdenHouse();
        int[][] bins = {{0, 0, 0, 0, 0}, {9999, 9999, 99, 99, 9999}, {99, 1, 0, 99, 1}, {100, 9998, 1, 0, 9998}, {9900, 0, 99, 0, 0}};
        for (int i = 0; i < bins.length; i++) {
            Sentences.due("bin", x.bin(STUFF, bins[i][0], bins[i][1]), i);
            Sentences.due("share", x.told(i, 1), bins[i][2]);
            Sentences.due("price", x.told(i, 2), bins[i][3]);
            Sentences.due("tons", x.told(i, 3), bins[i][4]);
        }
        Sentences.each("share and price", BAD, of -> x.bin(STUFF, of, 0), -1, 10000);
        Sentences.each("tons", BAD, tons -> x.bin(STUFF, 0, tons), -1, 10000);
    }

    /** Of so many tons of a kind, one behind the other: tons, amount, tons, amount .. */
    private static void amounts(int kind, int share, int what, int... tonsAndAmounts) {
        BurdenHouse x = Sentences.withBin(kind, 100 * share, 1);
        for (int i = 0; i < tonsAndAmounts.length; i += 2) {
            Sentences.due("kind " + kind + " share " + share + " what " + what + " of " + tonsAndAmounts[i], x.of(0, tonsAndAmounts[i], what), tonsAndAmounts[i + 1]);
        }
    }

    @Sentences.Says(at = "Section 1", words = "BULK: STUFF: t. ORE: as STUFF, less its fourth (the fourth is cut).")
    static void s1BulkFourthIsCut() {
        amounts(STUFF, 50, BULK, 0, 0, 1, 1, 999, 999);
        amounts(ORE, 50, BULK, 0, 0, 1, 1, 3, 3, 4, 3, 5, 4, 7, 6, 8, 6, 999, 750);
    }

    @Sentences.Says(at = "Section 1", words = "COKE: twice as STUFF. SMALL: as COKE, less t.")
    static void s1BulkOfCoke() {
        amounts(COKE, 50, BULK, 0, 0, 1, 2, 999, 1998);
        amounts(SMALL, 50, BULK, 0, 0, 1, 1, 999, 999);
    }

    @Sentences.Says(at = "Section 1", words = "IRON: STUFF: 0. ORE: t times SHARE by 100.")
    static void s1IronByShare() {
        amounts(STUFF, 99, IRON, 0, 0, 999, 0);
        amounts(ORE, 99, IRON, 0, 0, 1, 0, 2, 1, 100, 99, 101, 99, 102, 100, 999, 989);
        amounts(ORE, 0, IRON, 999, 0);
        amounts(ORE, 1, IRON, 99, 0, 100, 1, 999, 9);
    }

    @Sentences.Says(at = "Section 1", words = "SINTER: as ORE, less the twentieth of t (cut).")
    static void s1TwentiethIsCut() {
        amounts(SINTER, 50, IRON, 0, 0, 19, 9, 20, 9, 39, 18, 40, 18, 999, 450);
    }

    @Sentences.Says(at = "Section 1", words = "(IRON is 0 at least; a KIND")
    static void s1IronIsNotBelow0() {
        amounts(SINTER, 0, IRON, 0, 0, 19, 0, 20, 0, 999, 0);
        amounts(SINTER, 4, IRON, 20, 0, 99, 0, 999, 0);
        amounts(SINTER, 5, IRON, 19, 0, 999, 0);
        amounts(SINTER, 6, IRON, 999, 10);
    }

    @Sentences.Says(at = "Section 1", words = "ACID: STUFF: t by 10.")
    static void s1AcidOfStuff() {
        amounts(STUFF, 99, ACID, 0, 0, 9, 0, 10, 1, 19, 1, 20, 2, 999, 99);
        amounts(COKE, 99, ACID, 9, 0, 10, 1, 999, 99);
    }

    @Sentences.Says(at = "Section 1", words = "ORE: as STUFF, and the fourth (cut) of what t is more than IRON (its own).")
    static void s1AcidByOwnIron() {
        // of 100 tons: ORE has 1 IRON: 10 + 99/4; SINTER has 0: 10 + 100/4
        amounts(ORE, 1, ACID, 100, 34);
        amounts(SINTER, 1, ACID, 100, 35);
        amounts(ORE, 0, ACID, 3, 0, 4, 1, 7, 1, 8, 2);
        amounts(ORE, 50, ACID, 6, 0, 7, 1, 999, 224);
        amounts(ORE, 99, ACID, 0, 0, 999, 101);
    }

    @Sentences.Says(at = "Section 1", words = {"COKE: as STUFF. FLUX: 0.", "LIME: STUFF: 0."})
    static void s1NoAcidNoLime() {
        amounts(FLUX, 99, ACID, 0, 0, 10, 0, 999, 0);
        for (int kind : new int[] {STUFF, ORE, COKE, SMALL}) {
            amounts(kind, 99, LIME, 0, 0, 999, 0);
        }
    }

    @Sentences.Says(at = "Section 1", words = "SINTER: t by 8. FLUX: t times SHARE by 100.")
    static void s1Lime() {
        amounts(SINTER, 99, LIME, 0, 0, 7, 0, 8, 1, 15, 1, 999, 124);
        amounts(FLUX, 99, LIME, 0, 0, 1, 0, 2, 1, 999, 989);
        amounts(FLUX, 0, LIME, 999, 0);
    }

    @Sentences.Says(at = "Section 1", words = "HOLDS (what it holds gas, a unit of BULK): STUFF: 2. ORE: as STUFF, and 1. SINTER: as ORE, less 2. COKE: 1. SMALL: as COKE, and 4.")
    static void s1Holds() {
        int[] holds = {2, 3, 1, 1, 5, 2};
        for (int kind = 0; kind < 6; kind++) {
            Sentences.due("holds of kind " + kind, Sentences.withBin(kind, 0, 0).told(0, 5), holds[kind]);
        }
    }

    @Sentences.Says(at = "Section 1", words = "a KIND that is not named does as the one above it")
    static void s1NotNamed() {
        amounts(SINTER, 50, BULK, 3, 3, 4, 3, 999, 750);
        amounts(FLUX, 50, BULK, 999, 999);
        amounts(COKE, 50, IRON, 999, 0);
        amounts(SMALL, 50, IRON, 999, 0);
        amounts(FLUX, 50, IRON, 999, 0);
        amounts(SMALL, 50, ACID, 9, 0, 10, 1, 999, 99);
        Sentences.due("holds of flux", Sentences.withBin(FLUX, 0, 0).told(0, 5), 2);
    }

    // ---- section 2

    @Sentences.Says(at = "Section 2", words = "THE FURNACE has RINGS 0 .. 4 of AREAS 1, 3, 5, 7, 9.")
    static void s2Areas() {
        BurdenHouse x = Sentences.withBin(STUFF, 0, 9999);
        x.turns(0, 13579);
        x.charge(0, 250);
        Sentences.row("bulk", Sentences.bulk(x, 0), 10, 30, 50, 70, 90);
        Sentences.row("tops", Sentences.rings(x, 0), 1000, 1000, 1000, 1000, 1000);
        Sentences.each("ring", BAD, ring -> x.ring(ring, 0), -1, 5);
    }

    @Sentences.Says(at = "Section 2", words = "LAYERS, 24 at most, the lowest first")
    static void s2LayersAtMost() {
        BurdenHouse x = Sentences.withBin(STUFF, 0, 9999);
        for (int i = 1; i <= 24; i++) {
            Sentences.due("charge", x.charge(0, i), i);
        }
        Sentences.due("the 25th", x.charge(0, 25), FULL);
        Sentences.due("count", x.count(1), 24);
        for (int i = 0; i < 24; i++) {
            Sentences.due("tons of layer " + i, x.layer(i, 2), i + 1);
        }
        Sentences.due("no layer 24", x.layer(24, 2), BAD);
    }

    @Sentences.Says(at = "Section 2", words = "each of a BIN's STUFF (as it was), of the HOUR in which it was charged, with t tons")
    static void s2LayerAsItWas() {
        BurdenHouse x = Sentences.withStuffInRing(4);
        x.rule(1, 0);
        x.run(7);
        x.charge(0, 30);
        x.run(5);
        x.turns(0, 90000);
        x.charge(0, 8);
        x.fill(0, 20);
        x.run(2);
        Sentences.row("the lowest", Sentences.answers(4, what -> x.layer(0, what)), 0, 7, 30, 23);
        Sentences.row("on top", Sentences.answers(4, what -> x.layer(1, what)), 0, 12, 8, 6);
    }

    @Sentences.Says(at = "Section 2", words = "with BULK in each RING (0 and more)")
    static void s2BulkIs0OrMore() {
        BurdenHouse x = Sentences.withStuffInRing(4);
        x.charge(0, 1);
        Sentences.row("bulk", Sentences.bulk(x, 0), 0, 0, 0, 0, 1);
        x.charge(0, 3);
        x.run(1);
        // ring 4: weight 900000/9 beside 100000, 300000, 500000, 700000: 6 of 100: 2 go, one of each layer
        Sentences.row("none is below 0", Sentences.bulk(x, 0), 0, 0, 0, 0, 2);
        Sentences.due("layers", x.count(1), 1);
    }

    @Sentences.Says(at = "Section 2", words = "TOP of a RING: all BULK in it, together, times 100, by its AREA (cut).")
    static void s2TopIsCut() {
        BurdenHouse x = Sentences.withStuffInRing(4);
        x.charge(0, 5);
        x.charge(0, 3);
        Sentences.row("800 by 9", Sentences.rings(x, 0), 0, 0, 0, 0, 88);
        x.charge(0, 1);
        Sentences.row("900 by 9", Sentences.rings(x, 0), 0, 0, 0, 0, 100);
        x.turns(0, 9000);
        x.charge(0, 2);
        Sentences.row("200 by 3", Sentences.rings(x, 0), 0, 66, 0, 0, 100);
    }

    @Sentences.Says(at = "Section 2", words = "A CHARGE of t tons (1 .. 999) out of a BIN")
    static void s2TonsOfCharge() {
        BurdenHouse x = Sentences.withBin(STUFF, 0, 9999);
        Sentences.each("charge", BAD, t -> x.charge(0, t), 0, -1, 1000);
        Sentences.due("charge of 1", x.charge(0, 1), 1);
        Sentences.due("charge of 999", x.charge(0, 999), 2);
        Sentences.due("tons", x.told(0, 3), 8999);
    }

    @Sentences.Says(at = "Section 2", words = "by TURNS (five digits, RING 0 first, 0 ahead, too; not all 0)")
    static void s2TurnsByDigits() {
        int[] turns = {90000, 9000, 900, 90, 9};
        for (int ring = 0; ring < 5; ring++) {
            BurdenHouse x = Sentences.withBin(STUFF, 0, 9999);
            x.rule(0, 999);
            Sentences.due("turns", x.turns(0, turns[ring]), 22222);
            x.charge(0, 7);
            Sentences.due("all in ring " + ring, x.layer(0, 4 + ring), 7);
        }
        BurdenHouse y = Sentences.withBin(STUFF, 0, 9999);
        Sentences.due("all 0", y.turns(0, 0), BAD);
        Sentences.due("six digits", y.turns(0, 100000), BAD);
        Sentences.due("all 9", y.turns(0, 99999), 22222);
    }

    @Sentences.Says(at = "Section 2", words = {"each RING has the whole part of BULK times its TURNS by all,", "what is left goes one by one to those with the greatest rests, of like ones the lesser RING"})
    static void s2PartsOfCharge() {
        BurdenHouse x = Sentences.withBin(STUFF, 0, 9999);
        x.rule(0, 999);
        x.turns(0, 11111);
        x.charge(0, 7);
        Sentences.row("like rests", Sentences.bulk(x, 0), 2, 2, 1, 1, 1);
        // 10 by 1, 2, 0, 3, 1 of 7: 1, 2, 0, 4, 1; rests 3, 6, 0, 2, 3: two are left
        x.turns(0, 12031);
        x.charge(0, 10);
        Sentences.row("the greatest rests", Sentences.bulk(x, 1), 2, 3, 0, 4, 1);
        x.turns(0, 11111);
        x.charge(0, 5);
        Sentences.row("nothing is left", Sentences.bulk(x, 2), 1, 1, 1, 1, 1);
        x.charge(0, 4);
        Sentences.row("all is left", Sentences.bulk(x, 3), 1, 1, 1, 1, 0);
    }

    @Sentences.Says(at = "Section 2", words = "Then it SLIDES: as long as there is one, and 400 times at most")
    static void s2SlidesAtMost() {
        // 2, 0: 1, 1 (tops 100, 33); 0, 2 (0, 66); 1, 1; .. without end: behind 400 it is 0, 2
        BurdenHouse x = Sentences.withBin(STUFF, 0, 9999);
        x.turns(0, 90000);
        x.charge(0, 2);
        Sentences.row("behind 400", Sentences.bulk(x, 0), 0, 2, 0, 0, 0);
        // 999 in ring 0 stay above ring 1 all the time: 400 go
        BurdenHouse y = Sentences.withBin(STUFF, 0, 9999);
        y.rule(0, 999);
        y.turns(0, 90000);
        y.charge(0, 999);
        Sentences.row("400 go", Sentences.bulk(y, 0), 599, 400, 0, 0, 0);
    }

    @Sentences.Says(at = "Section 2", words = "whose TOPS differ by more than SLOPE (1 .. 999; 60 at first)")
    static void s2SlopeItselfStays() {
        BurdenHouse x = Sentences.withBin(STUFF, 0, 9999);
        x.turns(0, 900);
        x.charge(0, 3);
        Sentences.row("60 stays at first", Sentences.bulk(x, 0), 0, 0, 3, 0, 0);
        x.charge(0, 1);
        Sentences.row("80 does not", Sentences.bulk(x, 1), 0, 1, 0, 0, 0);
        BurdenHouse y = Sentences.withBin(STUFF, 0, 9999);
        y.rule(0, 900);
        y.turns(0, 90000);
        y.charge(0, 9);
        Sentences.row("900 stays", Sentences.bulk(y, 0), 9, 0, 0, 0, 0);
        BurdenHouse z = Sentences.withBin(STUFF, 0, 9999);
        z.rule(0, 899);
        z.turns(0, 90000);
        z.charge(0, 9);
        Sentences.row("900 slides by 899", Sentences.bulk(z, 0), 8, 1, 0, 0, 0);
    }

    @Sentences.Says(at = "Section 2", words = "the first two in which, too, the higher one has some BULK of the LAYER on top: 1 of that goes from the higher one to the lower one")
    static void s2OnlyTheLayerOnTopSlides() {
        // ring 0 stands 900 above ring 1, but has none of the layer on top; ring 4: 100 beside 0, then 88 beside 14
        BurdenHouse x = Sentences.withStuffInRing(0);
        x.charge(0, 9);
        x.rule(0, 60);
        x.turns(0, 9);
        x.charge(0, 9);
        Sentences.row("the lowest", Sentences.bulk(x, 0), 9, 0, 0, 0, 0);
        Sentences.row("on top", Sentences.bulk(x, 1), 0, 0, 0, 2, 7);
        // both neighbours of ring 3 are lower: the lesser pair first
        BurdenHouse y = Sentences.withStuffInRing(3);
        y.rule(0, 90);
        y.charge(0, 7);
        Sentences.row("the first two", Sentences.bulk(y, 0), 0, 0, 1, 6, 0);
    }

    // ---- section 3

    @Sentences.Says(at = "Section 3", words = "THE HOUR is 0 at first (999 at most).")
    static void s3HourAtMost() {
        BurdenHouse x = new BurdenHouse();
        Sentences.due("at first", x.count(6), 0);
        Sentences.runTo(x, 999);
        Sentences.due("above", x.run(1), FULL);
        Sentences.due("at most", x.count(6), 999);
    }

    @Sentences.Says(at = "Section 3", words = "GAS of an HOUR: what is told (0 .. 999; 100 at first), or by a program (section 4).")
    static void s3Gas() {
        BurdenHouse x = new BurdenHouse();
        Sentences.row("100 at first", Sentences.rings(x, 2), 4, 12, 20, 28, 36);
        Sentences.due("rule", x.rule(1, 0), 100);
        Sentences.row("0", Sentences.rings(x, 2), 0, 0, 0, 0, 0);
        Sentences.due("rule", x.rule(1, 999), 0);
        // 39.96, 119.88, 199.8, 279.72, 359.64
        Sentences.row("999", Sentences.rings(x, 2), 40, 120, 200, 280, 359);
        Sentences.each("rule", BAD, v -> x.rule(1, v), -1, 1000);
        Sentences.read(x, "gas 25");
        Sentences.row("by a program", Sentences.rings(x, 2), 1, 3, 5, 7, 9);
    }

    @Sentences.Says(at = "Section 3", words = "RESISTANCE of a RING: 1, and all BULK in it times what it HOLDS, together.")
    static void s3Resistance() {
        BurdenHouse x = Sentences.withStuffInRing(4);
        x.bin(SMALL, 0, 9999);
        x.turns(1, 9);
        Sentences.row("empty", Sentences.rings(x, 1), 1, 1, 1, 1, 1);
        x.charge(0, 3);
        Sentences.row("of STUFF", Sentences.rings(x, 1), 1, 1, 1, 1, 7);
        x.charge(1, 2);
        Sentences.row("of STUFF and SMALL", Sentences.rings(x, 1), 1, 1, 1, 1, 17);
    }

    @Sentences.Says(at = "Section 3", words = "WEIGHT of a RING: its AREA times 100000 by RESISTANCE.")
    static void s3WeightIsCut() {
        BurdenHouse x = Sentences.withBin(SMALL, 0, 9999);
        x.turns(0, 13579);
        x.charge(0, 900);
        Sentences.row("resistances", Sentences.rings(x, 1), 181, 541, 901, 1261, 1621);
        // weights 552, 554, 554, 555, 555: uncut ring 4 would weigh most (555.2)
        x.rule(1, 1);
        Sentences.row("gas of 1", Sentences.rings(x, 2), 0, 0, 0, 1, 0);
        x.rule(1, 3);
        Sentences.row("gas of 3", Sentences.rings(x, 2), 0, 1, 0, 1, 1);
        // weights 2173, 11538, 6172, 26923, 8490 of 55296: rests of 3: .118, .626, .335, .46067, .46061; not cut ring 4 is before ring 3
        BurdenHouse y = Sentences.withBin(SMALL, 0, 9999);
        y.rule(0, 999);
        y.turns(0, 42729);
        y.charge(0, 56);
        Sentences.row("resistances", Sentences.rings(y, 1), 46, 26, 81, 26, 106);
        y.rule(1, 3);
        Sentences.row("gas of 3", Sentences.rings(y, 2), 0, 1, 0, 2, 0);
        // weights 6250, 3488, 9803, 13725, 6617 of 39883: .552, .369, .548, .787, .745 of 999; by 99999 or 100001 ring 2 is before ring 0
        BurdenHouse z = Sentences.withBin(SMALL, 0, 9999);
        z.rule(0, 999);
        z.turns(0, 15338);
        z.charge(0, 67);
        Sentences.row("resistances", Sentences.rings(z, 1), 16, 86, 51, 51, 136);
        z.rule(1, 999);
        Sentences.row("gas of 999", Sentences.rings(z, 2), 157, 87, 245, 344, 166);
    }

    @Sentences.Says(at = "Section 3", words = "GAS is parted among RINGS by WEIGHTS: whole parts, what is left one by one by the greatest rests, of like ones the lesser RING")
    static void s3PartsOfGas() {
        BurdenHouse x = Sentences.withLikeWeights();
        x.rule(1, 7);
        Sentences.row("7 by like weights", Sentences.rings(x, 2), 2, 2, 1, 1, 1);
        x.rule(1, 4);
        Sentences.row("4 by like weights", Sentences.rings(x, 2), 1, 1, 1, 1, 0);
        x.rule(1, 5);
        Sentences.row("5 by like weights", Sentences.rings(x, 2), 1, 1, 1, 1, 1);
        // an empty furnace: 5 by 1, 3, 5, 7, 9 of 25: rests 5, 15, 0, 10, 20
        BurdenHouse y = new BurdenHouse();
        y.rule(1, 5);
        Sentences.row("the greatest rests", Sentences.rings(y, 2), 0, 1, 1, 1, 2);
    }

    /** All WEIGHTS are never 0: 24 times 999 tons of SMALL hold 119880, and RING 1 alone would have to hold 300000. */
    @Sentences.Says(at = "Section 3", words = "(all WEIGHTS 0: nothing is parted)")
    static void s3NothingIsParted() {
        BurdenHouse x = Sentences.withBin(SMALL, 0, 9999);
        x.rule(0, 999);
        x.turns(0, 90000);
        for (int i = 1; i <= 24; i++) {
            x.fill(0, 999);
            Sentences.due("charge", x.charge(0, 999), i);
        }
        Sentences.due("nearly so: ring 0 weighs 1", 100000 / x.ring(0, 1), 1);
        x.rule(1, 999);
        Sentences.due("all gas is parted", Arrays.stream(Sentences.rings(x, 2)).sum(), 999);
        x.rule(1, 0);
        Sentences.row("nothing is parted", Sentences.rings(x, 2), 0, 0, 0, 0, 0);
    }

    @Sentences.Says(at = "Section 3", words = "An HOUR, in this order: (a) GAS is found, and parted;")
    static void s3GasIsFoundFirst() {
        // ORE: BULK 6 in each ring, IRON 39: 6 by the first hour; gas is by the IRON ahead of each hour, and parted once
        BurdenHouse x = Sentences.withBin(ORE, 9900, 99);
        x.rule(0, 999);
        x.turns(0, 11111);
        x.charge(0, 40);
        Sentences.read(x, "gas i*10");
        x.run(1);
        Sentences.due("by no IRON: one of each ring", x.count(2), 25);
        Sentences.due("iron", x.hearth(0), 6);
        // resistances 16: weights 6250, 18750, 31250, 43750, 56250: 2.4, 7.2, 12, 16.8, 21.6 of 60
        Sentences.row("parts of 60", Sentences.rings(x, 2), 2, 7, 12, 17, 22);
        x.run(1);
        Sentences.row("1, 2, 4, 5, 5 of 5 are gone", Sentences.bulk(x, 0), 4, 3, 1, 0, 0);
        Sentences.due("the next hour", x.count(6), 2);
    }

    @Sentences.Says(at = "Section 3", words = "EATEN of a RING: its part by 4, and 1.")
    static void s3Eaten() {
        BurdenHouse x = Sentences.withLikeWeights();
        int[][] gasAndEaten = {{0, 1, 1, 1, 1, 1}, {15, 1, 1, 1, 1, 1}, {16, 2, 1, 1, 1, 1}, {20, 2, 2, 2, 2, 2}, {35, 2, 2, 2, 2, 2}, {39, 3, 3, 3, 3, 2}, {40, 3, 3, 3, 3, 3}};
        for (int[] row : gasAndEaten) {
            x.rule(1, row[0]);
            Sentences.row("eaten by gas " + row[0], Sentences.rings(x, 3), Arrays.copyOfRange(row, 1, 6));
        }
    }

    @Sentences.Says(at = "Section 3", words = "EATEN so much BULK of it goes, of the lowest LAYERS with some in it first, as far as there is")
    static void s3AsFarAsThereIs() {
        BurdenHouse x = Sentences.withStuffInRing(4);
        x.charge(0, 1);
        x.turns(0, 90);
        x.charge(0, 5);
        x.turns(0, 9);
        x.charge(0, 8);
        x.rule(1, 120);
        // ring 4 weighs 900000/19 = 47368 of 1011004: 5.6 of 120: 2 go
        Sentences.due("eaten", x.ring(4, 3), 2);
        x.run(1);
        Sentences.due("the lowest is gone, another lost one", x.count(1), 2);
        Sentences.row("the topmost", Sentences.bulk(x, 1), 0, 0, 0, 0, 7);
        x.rule(1, 999);
        Sentences.due("ring 0 has nothing that could be eaten", x.ring(0, 3) > 1 ? 1 : 0, 1);
        x.run(60);
        Sentences.due("no more than there is", x.count(2), 0);
        Sentences.row("ACID of 1, 5 and 8 tons", Sentences.hearth(x), 0, 0, 0, 0);
        Sentences.row("tops", Sentences.rings(x, 0), 0, 0, 0, 0, 0);
    }

    @Sentences.Says(at = "Section 3", words = {"what goes of a LAYER brings as much of its IRON, ACID, LIME to THE HEARTH as this is of all its BULK as it was charged",
        "IRON times what went of all its BULK up to now, by all its BULK, cut, less the same ahead of this HOUR and RING"})
    static void s3BroughtIsCut() {
        BurdenHouse x = Sentences.withBin(ORE, 9900, 9999);
        x.rule(0, 999);
        x.rule(1, 0);
        x.turns(0, 9);
        x.charge(0, 40);
        // BULK 30, IRON 39, ACID 4; one goes in an hour
        for (int gone = 1; gone <= 30; gone++) {
            x.run(1);
            Sentences.due("iron", x.hearth(0), 39 * gone / 30);
            Sentences.due("acid", x.hearth(1), 4 * gone / 30);
        }
        Sentences.due("all iron at the end", x.hearth(0), 39);
        Sentences.due("no layers", x.count(1), 0);
        x.run(1);
        Sentences.due("no more comes", x.hearth(0), 39);
    }

    @Sentences.Says(at = "Section 3", words = "LAYERS with no BULK any more are gone (the others one lower, each).")
    static void s3LayersGo() {
        BurdenHouse x = Sentences.withStuffInRing(4);
        x.rule(1, 0);
        x.charge(0, 2);
        x.turns(0, 90);
        x.charge(0, 1);
        x.turns(0, 9000);
        x.charge(0, 3);
        x.run(1);
        Sentences.due("the one between is gone", x.count(1), 2);
        Sentences.due("tons of the lowest", x.layer(0, 2), 2);
        Sentences.due("tons of the other, one lower", x.layer(1, 2), 3);
        Sentences.due("no layer 2", x.layer(2, 2), BAD);
        x.run(1);
        Sentences.due("the lowest is gone", x.count(1), 1);
        Sentences.due("tons", x.layer(0, 2), 3);
        x.run(1);
        Sentences.due("none is left", x.layer(0, 2), BAD);
    }

    @Sentences.Says(at = "Section 3", words = "THE HEARTH: IRON, ACID, LIME (0 at first).")
    static void s3HearthAtFirst() {
        BurdenHouse x = new BurdenHouse();
        Sentences.row("hearth", Sentences.hearth(x), 0, 0, 0, 0);
        x.run(1);
        Sentences.row("nothing comes of nothing", Sentences.hearth(x), 0, 0, 0, 0);
    }

    @Sentences.Says(at = "Section 3", words = "BASIC: 100 times LIME by ACID (0 without ACID).")
    static void s3BasicWithoutAcid() {
        BurdenHouse x = Sentences.withBin(FLUX, 9900, 9999);
        x.charge(0, 10);
        x.run(60);
        Sentences.row("LIME alone", Sentences.hearth(x), 0, 0, 9, 0);
        Sentences.due("7500 by 35", Sentences.withHearth().hearth(3), 214);
    }

    @Sentences.Says(at = "Section 3", words = "A CAST takes n (1 .. 9999) IRON out of it")
    static void s3CastOfAll() {
        BurdenHouse x = Sentences.withHearth();
        Sentences.each("cast", BAD, x::cast, 0, -1, 10000);
        Sentences.due("9999 is told, but not there", x.cast(9999), NO);
        Sentences.due("one too many", x.cast(91), NO);
        Sentences.due("cast of 1", x.cast(1), 89);
        Sentences.due("cast of all", x.cast(89), 0);
        Sentences.row("hearth", Sentences.hearth(x), 0, 0, 0, 0);
        BurdenHouse y = Sentences.withHearth();
        Sentences.due("all but 1", y.cast(89), 1);
        Sentences.due("the last 1", y.cast(1), 0);
        Sentences.row("hearth", Sentences.hearth(y), 0, 0, 0, 0);
    }

    @Sentences.Says(at = "Section 3", words = "and ACID and LIME by as much as n is of IRON (each by IRON, cut)")
    static void s3CastIsCut() {
        BurdenHouse x = Sentences.withHearth();
        // 35*7/90 = 2.7, 75*7/90 = 5.8
        Sentences.due("cast", x.cast(7), 83);
        Sentences.row("hearth", Sentences.hearth(x), 83, 33, 70, 212);
        Sentences.due("cast", x.cast(1), 82);
        Sentences.row("nothing by so little", Sentences.hearth(x), 82, 33, 70, 212);
    }

    @Sentences.Says(at = "Section 3", words = "(of the 60 from the open one on, above 999, too; nothing changes)")
    static void s3ComesDown() {
        BurdenHouse x = Sentences.withStuffInRing(4);
        x.rule(1, 0);
        x.charge(0, 60);
        x.charge(0, 1);
        Sentences.due("the 60th", x.down(0), 59);
        Sentences.due("the 61st", x.down(1), NONE);
        x.run(1);
        Sentences.due("the 60th from the open one", x.down(1), 60);
        Sentences.due("nothing changes", x.count(2), 60);
        Sentences.due("nothing changes", x.count(6), 1);
        Sentences.runTo(x, 999);
        x.charge(0, 2);
        Sentences.due("above 999", x.down(0), 1000);
        x.charge(0, 58);
        Sentences.due("the 60th above 999", x.down(1), 1058);
    }

    @Sentences.Says(at = "Section 3", words = "by GAS as it is in each HOUR, nothing being charged")
    static void s3ComesDownByGasOfEachHour() {
        BurdenHouse x = Sentences.withStuffInRing(4);
        x.charge(0, 20);
        Sentences.read(x, "gas (h>2)*999");
        Sentences.read(x, "draw 0 9");
        // one in each of hours 0, 1, 2; then ring 4 (resistance 35, weight 25714 beside 1600000) has 16 of 999: 5, 5 (at 25), 7
        Sentences.due("down", x.down(0), 5);
        Sentences.due("nothing was charged", x.count(1), 1);
        BurdenHouse y = Sentences.withStuffInRing(4);
        y.charge(0, 20);
        y.rule(1, 0);
        Sentences.due("without gas", y.down(0), 19);
    }

    // ---- section 4

    @Sentences.Says(at = "Section 4", words = "TEXTS, 12 at most, numbered from 0")
    static void s4TextsAtMost() {
        BurdenHouse x = new BurdenHouse();
        for (int i = 0; i < 12; i++) {
            Sentences.due("text", Sentences.read(x, "gas " + i), i);
        }
        Sentences.due("the 13th", Sentences.read(x, "gas 1"), FULL);
        Sentences.due("count", x.count(3), 12);
        Sentences.due("gas by the 12th", Arrays.stream(Sentences.rings(x, 2)).sum(), 11);
    }

    @Sentences.Says(at = "Section 4", words = "THE TAPE (96 bytes at most")
    static void s4TapeAtMost() {
        BurdenHouse x = new BurdenHouse();
        for (int i = 1; i <= 8; i++) {
            Sentences.due("feed", x.feed(0x20202020, 0x20202020, 0x20202020), 12 * i);
        }
        Sentences.due("above 96", x.feed(0, 0, 0), FULL);
        Sentences.due("count", x.count(8), 96);
        Sentences.due("96 blanks: the end comes too soon", x.text(), -196);
        StringBuilder longest = new StringBuilder("gas h");
        while (longest.length() < 95) {
            longest.append("+1");
        }
        Sentences.due("a text of 95 bytes", longest.length(), 95);
        Sentences.due("and a blank", Sentences.read(x, longest.append(' ').toString()), 0);
        Sentences.due("numbers and names", x.textTold(0, 2), 46);
    }

    @Sentences.Says(at = "Section 4", words = "an act that reads it uses it up, whatever it answers)")
    static void s4TapeIsUsedUp() {
        BurdenHouse x = new BurdenHouse();
        Sentences.due("a fault", Sentences.read(x, "gas h h"), -106);
        Sentences.due("used up", x.count(8), 0);
        Sentences.due("nothing there", x.text(), -100);
        for (int i = 0; i < 12; i++) {
            Sentences.due("a text", Sentences.read(x, "gas h"), i);
            Sentences.due("used up", x.count(8), 0);
        }
        Sentences.due("full", Sentences.read(x, "gas h"), FULL);
        Sentences.due("used up", x.count(8), 0);
    }

    @Sentences.Says(at = "Section 4", words = {"draw B E (B: a NUMBER, 0 .. 5)", "a B above 5,"})
    static void s4BinOfDraw() {
        BurdenHouse x = new BurdenHouse();
        String[] bins = {"0", "5", "0005", "0000"};
        int[] due = {0, 5, 5, 0};
        for (int i = 0; i < bins.length; i++) {
            Sentences.due("draw " + bins[i], Sentences.read(x, "draw " + bins[i] + " h"), i);
            Sentences.due("its bin", x.textTold(i, 1), due[i]);
        }
        Sentences.faultAt(5, "draw 6 h");
        Sentences.faultAt(5, "draw 0006 h");
        Sentences.faultAt(7, "draw   10 h");
        Sentences.faultAt(5, "draw 9999 h");
        Sentences.faultAt(5, "draw h h");
        Sentences.faultAt(5, "draw (5) h");
    }

    @Sentences.Says(at = "Section 4", words = {"NUMBER (1 to 4 digits)", "a NUMBER of more than 4 digits,"})
    static void s4Digits() {
        Sentences.gives(0, "0");
        Sentences.gives(999, "9999");
        Sentences.gives(9, "0009");
        Sentences.gives(1, "9999=9998+1");
        Sentences.faultAt(4, "gas 10000");
        Sentences.faultAt(4, "gas 00000");
        Sentences.faultAt(6, "gas h+12345");
        Sentences.faultAt(5, "draw 00000 h");
        Sentences.faultAt(4, "gas 99999999999999999999");
    }

    @Sentences.Says(at = "Section 4", words = "NAMES, each one letter: h the HOUR; of draw t the greatest TOP, b BASIC, s TONS of the BIN; of gas t, i IRON in THE HEARTH; of late c how many fillings there were.")
    static void s4Names() {
        String[] heads = {"draw 0 ", "gas ", "late "};
        String[] names = {"htbs", "hti", "hc"};
        for (int key = 0; key < 3; key++) {
            for (char letter = 'a'; letter <= 'z'; letter++) {
                if (names[key].indexOf(letter) >= 0) {
                    Sentences.isText(heads[key] + letter);
                } else {
                    Sentences.faultAt(heads[key].length(), heads[key] + letter);
                }
            }
            Sentences.faultAt(heads[key].length(), heads[key] + "hh");
        }
    }

    @Sentences.Says(at = "Section 4", words = "h the HOUR; of draw t the greatest TOP, b BASIC, s TONS of the BIN; of gas t, i IRON in THE HEARTH; of late c how many fillings there were.")
    static void s4NamesStandFor() {
        BurdenHouse x = withTopOf200();
        Sentences.due("gas by h", Sentences.gas(x, "h"), 60);
        Sentences.due("gas by t", Sentences.gas(x, "t"), 200);
        Sentences.due("gas by i", Sentences.gas(x, "i"), 90);
        String[] draws = {"h", "t", "b", "s-400"};
        int[] due = {60, 200, 214, 298};
        for (int i = 0; i < draws.length; i++) {
            BurdenHouse y = withTopOf200();
            Sentences.read(y, "draw 3 " + draws[i]);
            Sentences.due("round of " + draws[i], y.round(), 1);
            Sentences.due("tons by " + draws[i], y.layer(1, 2), due[i]);
        }
        BurdenHouse z = withTopOf200();
        z.ladle(50);
        Sentences.read(z, "late h*10+c");
        Sentences.due("late by h and c", z.pour(60, 0), 60 + 602);
    }

    /** Hour 60, a hearth of 90 IRON, BASIC 214, and 2 of 700 tons of bin 3 in ring 0. */
    private static BurdenHouse withTopOf200() {
        BurdenHouse x = Sentences.withHearth();
        x.rule(0, 999);
        x.bin(STUFF, 0, 700);
        x.turns(3, 90000);
        x.charge(3, 2);
        Sentences.row("tops", Sentences.rings(x, 0), 200, 0, 0, 0, 0);
        return x;
    }

    @Sentences.Says(at = "Section 4", words = "E, the loosest first: OR: AND { | AND };")
    static void s4LoosestFirst() {
        Sentences.gives(14, "2+3*4");
        Sentences.gives(20, "(2+3)*4");
        Sentences.gives(12, "20-5-3");
        Sentences.gives(7, "100/7/2");
        Sentences.gives(8, "2*3/2+5");
        Sentences.gives(6, "9-12/4");
        Sentences.gives(1, "1+1<3");
        Sentences.gives(1, "2<1+3&5");
        Sentences.gives(1, "1|1&0");
        Sentences.gives(1, "0&0|1");
        Sentences.gives(0, "(1|1)&0");
        Sentences.gives(5, "!0+4");
        Sentences.gives(0, "!(0+4)");
        Sentences.gives(6, "2*!0*3");
        Sentences.gives(1, "0|3|0&2");
    }

    @Sentences.Says(at = "Section 4", words = "AND: TEST { & TEST }; TEST: SUM [ (< | = | >) SUM ]; SUM: TERM")
    static void s4OneTestOnly() {
        Sentences.faultAt(7, "gas 1<2<3");
        Sentences.faultAt(7, "gas 1=1=1");
        Sentences.faultAt(11, "gas 1>0+2*3<9");
        Sentences.faultAt(11, "gas (1<2)<3=1");
        Sentences.isText("gas 1<2&2<3|3<4");
        Sentences.isText("gas (1<2)<(2<3)");
        Sentences.faultAt(13, "gas 1<(2<3)+1<2");
    }

    @Sentences.Says(at = "Section 4", words = "A word is a row of letters a .. z, or of digits, as long as it goes; any other byte is a sign by itself.")
    static void s4WordsAndSigns() {
        Sentences.faultAt(5, "gas h`");
        Sentences.faultAt(4, "gas ha");
        Sentences.faultAt(4, "gas hz");
        Sentences.faultAt(5, "gas h{");
        Sentences.faultAt(5, "gas h:");
        Sentences.faultAt(5, "gas 1:");
        Sentences.faultAt(5, "gas 1.5");
        Sentences.gives(3, "6/2");
        Sentences.gives(109, "109");
        Sentences.faultAt(0, "Gas h");
        Sentences.faultAt(3, "gasH");
        Sentences.faultAt(0, "gass h");
        Sentences.faultAt(0, "ga s h");
        Sentences.faultAt(4, "gas \u0000");
        Sentences.faultAt(5, "gas h\u0080");
        Sentences.faultAt(5, "gas h\u00ff");
        Sentences.faultAt(5, "gas h,h");
        Sentences.faultAt(6, "gas h||h");
        Sentences.faultAt(6, "gas h<=h");
    }

    @Sentences.Says(at = "Section 4", words = "Between words and signs, and at the ends, there may be blanks (byte 32)")
    static void s4Blanks() {
        Sentences.gives(14, " 2  + 3 *4   ");
        Sentences.isText("  gas   (  ! h  )   ");
        Sentences.isText("draw   3   h");
        Sentences.isText("gas(h)");
        Sentences.faultAt(3, "gas\th");
        Sentences.faultAt(3, "gas\u001fh");
        Sentences.faultAt(3, "gas\nh");
        Sentences.faultAt(3, "gas\u00a0h");
        Sentences.faultAt(5, "gas h\t");
        Sentences.faultAt(0, "\tgas h");
    }

    @Sentences.Says(at = "Section 4", words = {"a word right behind another one needs one.", "(a word that needs a blank ahead of it,"})
    static void s4WordBehindWord() {
        Sentences.faultAt(3, "gas5");
        Sentences.faultAt(4, "late5");
        Sentences.faultAt(4, "draw0 h");
        Sentences.faultAt(6, "draw 0h");
        Sentences.faultAt(5, "gas h5");
        Sentences.faultAt(5, "gas 5h");
        Sentences.isText("gas 5");
        Sentences.isText("gas(5)");
        Sentences.isText("gas!5");
        Sentences.isText("draw 0!h");
        Sentences.isText("draw 0(h)");
        Sentences.faultAt(6, "gas h 5");
        Sentences.faultAt(6, "gas 5 h");
    }

    @Sentences.Says(at = "Section 4", words = "FAULT: the first byte of the first word or sign with which no TEXT goes on")
    static void s4FirstFault() {
        Sentences.faultAt(0, "5");
        Sentences.faultAt(2, "  (");
        Sentences.faultAt(0, "drawgas h");
        Sentences.faultAt(0, "xas h");
        Sentences.faultAt(0, "gax h");
        Sentences.faultAt(0, "xraw 0 h");
        Sentences.faultAt(0, "lat h");
        Sentences.faultAt(0, "xate c");
        Sentences.faultAt(4, "gas )");
        Sentences.faultAt(5, "gas ()");
        Sentences.faultAt(4, "gas +1");
        Sentences.faultAt(6, "gas 1+-1");
        Sentences.faultAt(5, "gas h)");
        Sentences.faultAt(7, "gas (h))");
        Sentences.faultAt(5, "gas h(1)");
        Sentences.faultAt(6, "gas h !h");
        Sentences.faultAt(7, "gas (h)h");
        Sentences.faultAt(4, "gas draw");
        Sentences.faultAt(6, "gas 1 gas 2 )");
    }

    @Sentences.Says(at = "Section 4", words = "the ninth ( that would be open within others,")
    static void s4NinthBracket() {
        Sentences.isText("gas ((((((((h))))))))");
        Sentences.faultAt(12, "gas (((((((((h)))))))))");
        Sentences.isText("gas ((((((((h))))))))+((((((((1))))))))");
        Sentences.isText("gas (((((((" + "(1)+(2))+(3)" + "))))))");
        Sentences.faultAt(16, "gas (((((((1+(1+(1)))))))))");
        Sentences.faultAt(13, "late ((((((((((c");
        BurdenHouse x = new BurdenHouse();
        Sentences.due("eight are open at the end", Sentences.read(x, "gas ((((((((h"), -113);
        Sentences.due("none of them is open within another text", Sentences.read(x, "gas ((((((((h))))))))"), 0);
        Sentences.due("nor can it be closed there", Sentences.read(x, "gas h)"), -105);
    }

    @Sentences.Says(at = "Section 4", words = "the ninth ! likewise (open till its PIECE ends), each by itself);")
    static void s4NinthNot() {
        Sentences.isText("gas !!!!!!!!h");
        Sentences.faultAt(12, "gas !!!!!!!!!h");
        Sentences.isText("gas !!!!!!!!h+!!!!!!!!1");
        Sentences.isText("gas !!!!!!!!(h)*!!!!!!!!1");
        Sentences.faultAt(13, "gas !!!!!!!!(!h)");
        Sentences.faultAt(15, "gas !!!!!!!!(1+!h)");
        Sentences.isText("gas !(!(!(!(!(!(!(!(h))))))))");
        Sentences.faultAt(20, "gas !(!(!(!(!(!(!(!(!h))))))))");
        Sentences.isText("gas (!!!!!!!!h)*!!!!!!!!1");
        Sentences.isText("gas !(!!!!!!!h+!!!!!!!1)");
        Sentences.faultAt(13, "gas !(!!!!!!!!1)");
        Sentences.faultAt(22, "gas !(!!!!!!!1+!!!!!!!!1)");
        BurdenHouse x = new BurdenHouse();
        Sentences.due("eight are open at the end", Sentences.read(x, "gas !!!!!!!!"), -112);
        Sentences.due("none of them is open within another text", Sentences.read(x, "gas !!!!!!!!h"), 0);
        Sentences.due("three are open at the end", Sentences.read(x, "gas !!!"), -107);
        Sentences.due("nor do they turn another text", Sentences.gas(x, "7"), 7);
        Sentences.gives(1, "!!!!!!!!7");
        Sentences.gives(0, "!!!!!!!7");
    }

    @Sentences.Says(at = "Section 4", words = "the end (the place behind the last byte), if it comes too soon.")
    static void s4EndTooSoon() {
        String[] texts = {"", "   ", "gas", "gas  ", "draw", "draw 5", "draw 5  ", "late !", "gas (", "gas (h", "gas (h  ", "gas h+", "gas h*  ", "gas h<", "gas h&", "gas ((h)"};
        for (String text : texts) {
            Sentences.faultAt(text.length(), text);
        }
    }

    @Sentences.Says(at = "Section 4", words = "Ints wrap;")
    static void s4IntsWrap() {
        // 9999*9999*430 is 42991400430: less ten times 4294967296 it is 41727470
        Sentences.gives(417, "9999*9999*430/9999/10");
        Sentences.gives(1, "2048*2048*512<0");
        Sentences.gives(1, "2048*2048*512-1>0");
        Sentences.gives(1, "2048*2048*511+2048*2048<0");
        Sentences.gives(0, "2048*2048*1024");
        Sentences.gives(1, "2048*2048*512/(0-1)=2048*2048*512");
        Sentences.gives(1, "0-2048*2048*512<0");
    }

    @Sentences.Says(at = "Section 4", words = "/ is 0 by 0;")
    static void s4By0() {
        Sentences.gives(0, "7/0");
        Sentences.gives(0, "0/0");
        Sentences.gives(5, "5+7/(3-3)");
        Sentences.gives(5, "5+7/h");
        Sentences.gives(0, "7/0*3");
        BurdenHouse x = Sentences.withBin(STUFF, 0, 99);
        Sentences.read(x, "draw 0 9/b+4");
        Sentences.due("round", x.round(), 1);
        Sentences.due("tons", x.layer(0, 2), 4);
    }

    @Sentences.Says(at = "Section 4", words = "tests, & | ! give 1 or 0 (what is not 0 is true; both sides are worked out).")
    static void s4Truth() {
        Sentences.gives(6, "(1<2)+(2<1)+(2<2)+(2=2)*2+(2=3)+(3>2)*3+(2>2)+(2>3)");
        Sentences.gives(111, "(5&7)+((0-5)&(0-7))*10+(2|0)*100");
        Sentences.gives(9, "9+(0&7)+(7&0)+(0&0)");
        Sentences.gives(9, "9+(0|0)");
        Sentences.gives(111, "(0|7)+((0-7)|0)*10+(7|7)*100");
        Sentences.gives(9, "9+!5+!(0-5)");
        Sentences.gives(1, "!0");
        Sentences.gives(0, "0&1/0");
        Sentences.gives(1, "1|1/0");
        Sentences.gives(1, "1/0|1");
    }

    @Sentences.Says(at = "Section 4", words = "Of a key (and a BIN) that TEXT counts that was told last.")
    static void s4ToldLast() {
        BurdenHouse x = new BurdenHouse();
        String[] texts = {"draw 1 h", "gas 1", "draw 2 h", "gas 2", "draw 1 1", "late c"};
        for (int i = 0; i < texts.length; i++) {
            Sentences.due(texts[i], Sentences.read(x, texts[i]), i);
        }
        Sentences.due("bin 1", x.why(0, 1), 4);
        Sentences.due("bin 2", x.why(0, 2), 2);
        Sentences.due("bin 0", x.why(0, 0), NONE);
        Sentences.due("gas", x.why(1, 0), 3);
        Sentences.due("late", x.why(2, 0), 5);
        Sentences.due("gas by the last", Arrays.stream(Sentences.rings(x, 2)).sum(), 2);
    }

    @Sentences.Says(at = "Section 4", words = "what draw gives at its turn, held within 0 .. 999, and its TONS at most,")
    static void s4DrawIsHeld() {
        String[] draws = {"999", "1000", "9999", "2048*2048*512", "0-1", "s", "s-1", "s+1"};
        int[] few = {500, 500, 500, 0, 0, 500, 499, 500};
        int[] many = {999, 999, 999, 0, 0, 999, 999, 999};
        for (int i = 0; i < draws.length; i++) {
            drawn(draws[i], 500, few[i]);
            drawn(draws[i], 9999, many[i]);
        }
        drawn("9", 0, 0);
        drawn("999", 998, 998);
    }

    private static void drawn(String draw, int tons, int due) {
        BurdenHouse x = Sentences.withBin(STUFF, 0, tons);
        Sentences.due("text", Sentences.read(x, "draw 0 " + draw), 0);
        Sentences.due("round of " + draw, x.round(), due > 0 ? 1 : 0);
        Sentences.due("tons left by " + draw, x.told(0, 3), tons - due);
        Sentences.due("tons drawn by " + draw, due > 0 ? x.layer(0, 2) : 0, due);
    }

    @Sentences.Says(at = "Section 4", words = "is charged by the BIN's TURNS (22222 at first)")
    static void s4TurnsAtFirst() {
        BurdenHouse x = Sentences.withBin(STUFF, 0, 99);
        Sentences.due("told", x.told(0, 4), 22222);
        Sentences.read(x, "draw 0 5");
        x.rule(0, 999);
        x.round();
        Sentences.row("one each", Sentences.bulk(x, 0), 1, 1, 1, 1, 1);
        x.turns(0, 9);
        x.round();
        Sentences.row("by the turns of now", Sentences.bulk(x, 1), 0, 0, 0, 0, 5);
    }

    @Sentences.Says(at = "Section 4", words = "if it is above 0 and there is room for a LAYER.")
    static void s4RoomForALayer() {
        BurdenHouse x = Sentences.withBin(STUFF, 0, 99);
        x.bin(STUFF, 0, 99);
        x.bin(STUFF, 0, 99);
        Sentences.read(x, "draw 0 0");
        Sentences.read(x, "draw 1 1");
        Sentences.read(x, "draw 2 1");
        for (int i = 0; i < 11; i++) {
            Sentences.due("0 is not charged", x.round(), 2);
        }
        x.charge(0, 1);
        Sentences.due("room for one", x.round(), 1);
        Sentences.due("that of the lesser number", x.told(1, 3), 99 - 12);
        Sentences.due("no room", x.round(), 0);
        Sentences.due("tons stay", x.told(2, 3), 99 - 11);
        Sentences.due("layers", x.count(1), 24);
    }

    @Sentences.Says(at = "Section 4", words = "GAS by a TEXT is held within 0 .. 999.")
    static void s4GasIsHeld() {
        Sentences.gives(0, "0-1");
        Sentences.gives(0, "2048*2048*512");
        Sentences.gives(999, "999");
        Sentences.gives(999, "1000");
        Sentences.gives(999, "2048*2048*512-1");
        Sentences.gives(998, "998");
    }

    // ---- section 5

    @Sentences.Says(at = "Section 5", words = "a place of NO NUMBER is lost.")
    static void s5Lost() {
        BurdenHouse x = new BurdenHouse();
        x.sheet(0, 1, 5);
        Sentences.marks(x, 0, 9, NONE, 5, NONE, 9);
        Sentences.due("hangs", x.sound(0, 0, 0), 1);
        Sentences.due("slips by 3", x.sound(0, 1, 3), 1);
        Sentences.marks(x, 0, -9, NONE, -5, NONE, -7);
        Sentences.due("hangs below 0", x.sound(0, 0, 0), 1);
        Sentences.due("slips below 0", x.sound(0, 1, 0), 1);
        Sentences.marks(x, 0, NONE, NONE, NONE, NONE, NONE);
        Sentences.due("hangs", x.sound(0, 0, 0), 0);
        Sentences.due("slips", x.sound(0, 1, 0), 0);
    }

    @Sentences.Says(at = "Section 5", words = "HANGS: the most known places one behind the other each of which is not lower than the known one ahead")
    static void s5Hangs() {
        hangs(0);
        hangs(0, 5);
        hangs(1, 5, 5);
        hangs(1, 5, 6);
        hangs(0, 5, 4);
        hangs(3, 4, 4, 4, 4);
        hangs(3, 1, 2, 1, 2, 3, 4, 1, 2, 2);
        hangs(2, 9, -5, -5, -4);
    }

    private static void hangs(int due, int... places) {
        for (int sort = 0; sort < 2; sort++) {
            BurdenHouse x = new BurdenHouse();
            x.sheet(0, sort, places.length);
            Sentences.marks(x, 0, places);
            Sentences.due("hangs of " + Arrays.toString(places), x.sound(0, 0, 0), due);
        }
    }

    @Sentences.Says(at = "Section 5", words = "(lost ones are left out: they neither end nor lengthen such a row; a lower one, and the first known one, is none of it)")
    static void s5HangsOfLostOnes() {
        BurdenHouse x = new BurdenHouse();
        x.sheet(0, 1, 8);
        Sentences.marks(x, 0, NONE, 4, NONE, 4, NONE, NONE, 5, NONE);
        Sentences.due("neither end nor lengthen", x.sound(0, 0, 0), 2);
        Sentences.marks(x, 0, NONE, 4, NONE, 3, NONE, NONE, 3, 3);
        Sentences.due("a lower one is none of it", x.sound(0, 0, 0), 2);
        Sentences.marks(x, 0, NONE, -7, NONE, NONE, NONE, NONE, NONE, NONE);
        Sentences.due("the first known one is none of it", x.sound(0, 0, 0), 0);
        Sentences.marks(x, 0, 3, 4, 5, NONE, 4, NONE, 5, 6);
        Sentences.due("a lower one behind a lost one ends it", x.sound(0, 0, 0), 2);
    }

    @Sentences.Says(at = "Section 5", words = "SLIPS: how many known places are lower than the known one ahead by more than n.")
    static void s5Slips() {
        BurdenHouse x = new BurdenHouse();
        x.sheet(0, 1, 6);
        Sentences.marks(x, 0, 9, 4, NONE, 0, 4, 3);
        Sentences.due("by more than 0", x.sound(0, 1, 0), 3);
        Sentences.due("by more than 1", x.sound(0, 1, 1), 2);
        Sentences.due("by more than 3", x.sound(0, 1, 3), 2);
        Sentences.due("by more than 4", x.sound(0, 1, 4), 1);
        Sentences.due("by more than 5", x.sound(0, 1, 5), 0);
        x.sheet(1, 1, 2);
        Sentences.marks(x, 1, 99999, -99999);
        Sentences.due("by more than 9999", x.sound(1, 1, 9999), 1);
        x.sheet(2, 0, 3);
        Sentences.marks(x, 2, 32767, -32768, -32768);
        Sentences.due("of shorts", x.sound(2, 1, 9999), 1);
        Sentences.due("a like one does not slip", x.sound(2, 1, 0), 1);
    }

    @Sentences.Says(at = "Section 5", words = "THE BURDEN of up to 3 told BINS (of none: nothing, 0): tens of tons u (0 .. 9) of each")
    static void s5Burden() {
        BurdenHouse x = Sentences.withBin(ORE, 5001, 0);
        Sentences.due("of none", x.burden(0, 999, -1), 0);
        Sentences.due("of none, need", x.burden(1, 999, -1), NONE);
        Sentences.due("of none, ends", x.burden(0, 1999, -1), NONE);
        x.choose(0);
        Sentences.due("9 tens of tons", x.burden(45, 999, 0), 9);
        Sentences.due("no more than 9", x.burden(46, 999, 0), NONE);
        Sentences.due("0 tens of tons", x.burden(0, 999, 0), 0);
        for (int i = 1; i < 4; i++) {
            x.bin(ORE, 5001, 0);
        }
        Sentences.due("choose", x.choose(1), 2);
        Sentences.due("choose", x.choose(2), 3);
        Sentences.due("3 at most", x.choose(3), FULL);
        Sentences.due("9 of each", x.burden(135, 999, -1), 270);
        Sentences.due("no more than 9 of each", x.burden(136, 999, -1), NONE);
    }

    @Sentences.Says(at = "Section 5", words = "so that IRON of all is need or more, and 100 times LIME by ACID (0 without ACID) lies within two ends")
    static void s5BurdenWithinEnds() {
        // ORE: 10u tons: IRON 5u, ACID u + 5u/4; FLUX: 10v tons: LIME 9v; u = 2, v = 1: BASIC 900/4 = 225
        BurdenHouse x = Sentences.withBin(ORE, 5010, 0);
        x.bin(FLUX, 9005, 0);
        x.choose(1);
        Sentences.due("0 without ACID", x.burden(0, 1999, -1), NONE);
        Sentences.due("0 without ACID", x.burden(0, 0, -1), 0);
        x.clear();
        x.choose(0);
        x.choose(1);
        Sentences.due("need itself", x.burden(10, 225225, -1), 250);
        Sentences.due("the least end itself", x.burden(10, 225300, 0), 2);
        Sentences.due("the greatest end itself", x.burden(10, 200225, 1), 1);
        Sentences.due("above", x.burden(10, 226226, -1), NONE);
        Sentences.due("below", x.burden(10, 224224, -1), NONE);
        Sentences.due("need of one more", x.burden(11, 0, 0), 3);
        // SHARE 5: 80 tons have 4 IRON, though 10 tons have none
        BurdenHouse y = Sentences.withBin(ORE, 501, 0);
        y.choose(0);
        Sentences.due("IRON of all tons of it", y.burden(4, 999, 0), 8);
        Sentences.due("ten tons have none", y.of(0, 10, IRON), 0);
    }

    @Sentences.Says(at = "Section 5", words = "that with the least PRICE together (PRICE times tons)")
    static void s5BurdenOfLeastPrice() {
        // IRON 5 and 9 of ten tons, at 10 and 17 a ton
        BurdenHouse x = Sentences.withBin(ORE, 5010, 0);
        x.bin(ORE, 9017, 0);
        x.choose(0);
        x.choose(1);
        int[][] burdens = {{0, 0, 0, 0}, {5, 100, 1, 0}, {6, 170, 0, 1}, {9, 170, 0, 1}, {10, 200, 2, 0}, {14, 270, 1, 1}, {19, 370, 2, 1}, {81, 1530, 0, 9}, {126, 2430, 9, 9}};
        for (int[] row : burdens) {
            Sentences.row("burden of " + row[0], Sentences.answers(3, i -> x.burden(row[0], 999, i - 1)), row[1], row[2], row[3]);
        }
        // for nothing: u of it does not matter to PRICE
        BurdenHouse y = Sentences.withBin(ORE, 5000, 0);
        y.choose(0);
        Sentences.row("for nothing", Sentences.answers(2, i -> y.burden(11, 999, i - 1)), 0, 3);
    }

    @Sentences.Says(at = "Section 5", words = "of several the first (by the order told, the least first)")
    static void s5BurdenOfSeveral() {
        BurdenHouse x = Sentences.withBin(ORE, 5010, 0);
        x.bin(ORE, 5010, 0);
        x.bin(STUFF, 0, 0);
        x.choose(2);
        x.choose(1);
        x.choose(0);
        Sentences.row("10 IRON", Sentences.answers(3, i -> x.burden(10, 0, i)), 0, 0, 2);
        Sentences.row("50 IRON: 9 at most", Sentences.answers(3, i -> x.burden(50, 0, i)), 0, 1, 9);
        x.clear();
        x.choose(0);
        x.choose(1);
        Sentences.row("the order told", Sentences.answers(2, i -> x.burden(10, 0, i)), 0, 2);
    }

    @Sentences.Says(at = "Section 5", words = "EMPTY: how many full HOURS a BIN goes on by r tons an HOUR.")
    static void s5Empty() {
        BurdenHouse x = Sentences.withBin(STUFF, 0, 500);
        int[][] hours = {{1, 500}, {2, 250}, {3, 166}, {499, 1}, {500, 1}, {501, 0}, {999, 0}};
        for (int[] row : hours) {
            Sentences.due("hours by " + row[0], x.empty(0, row[0]), row[1]);
        }
        Sentences.due("of nothing", Sentences.withBin(STUFF, 0, 0).empty(0, 1), 0);
    }

    @Sentences.Says(at = "Section 5", words = "LADLES, 6 at most, numbered from 0")
    static void s5LadlesAtMost() {
        BurdenHouse x = new BurdenHouse();
        for (int i = 0; i < 6; i++) {
            Sentences.due("ladle", x.ladle(1), i);
        }
        Sentences.due("the seventh", x.ladle(1), FULL);
        Sentences.due("count", x.count(5), 6);
    }

    @Sentences.Says(at = "Section 5", words = "each holds up to a CAP 1 .. 999 and is back at a minute (0 .. 9999; 0 at first).")
    static void s5Cap() {
        BurdenHouse x = Sentences.withHearth();
        Sentences.each("ladle", BAD, x::ladle, 0, -1, 1000);
        Sentences.due("ladle", x.ladle(1), 0);
        Sentences.due("ladle", x.ladle(999), 1);
        Sentences.row("back at first", Sentences.answers(2, x::backAt), 0, 0);
        BurdenHouse z = Sentences.withMuchIron();
        z.ladle(1);
        z.rule(2, 999);
        Sentences.read(z, "late c");
        Sentences.due("9999 fillings of 1", z.pour(9999, 0), 9998 * 999 + 999);
        Sentences.due("pour", x.pour(90, 0), 0);
        Sentences.row("1 and 89", Sentences.answers(2, x::backAt), 61, 150);
        BurdenHouse y = Sentences.withHearth();
        y.ladle(30);
        Sentences.due("a full one does not go on", y.pour(30, 0), 0);
        Sentences.due("back", y.backAt(0), 90);
        Sentences.due("from the greatest minute on", y.pour(1, 9999), 0);
        Sentences.due("back", y.backAt(0), 10060);
    }

    @Sentences.Says(at = "Section 5", words = "ladles are filled one behind the other, always the one with the least minute of back (of several the least number), at its minute or when the one ahead is full")
    static void s5LeastMinute() {
        BurdenHouse x = Sentences.withHearth();
        x.ladle(5);
        x.ladle(5);
        x.pour(5, 0);
        Sentences.row("the least number", Sentences.answers(2, x::backAt), 65, 0);
        x.pour(5, 0);
        Sentences.row("the least minute", Sentences.answers(2, x::backAt), 65, 65);
        x.pour(5, 100);
        Sentences.row("the least number", Sentences.answers(2, x::backAt), 165, 65);
        // ladle 1 at its minute, 65 to 70, and again at 130
        Sentences.due("late", x.pour(6, 0), 65 + 60);
        Sentences.row("at its minute", Sentences.answers(2, x::backAt), 165, 191);
        // ladle 0 from 500 to 505, ladle 1 when that is full, to 510, ladle 0 again at 565
        Sentences.due("late", x.pour(11, 500), 55);
        Sentences.row("when the one ahead is full", Sentences.answers(2, x::backAt), 626, 570);
    }

    @Sentences.Says(at = "Section 5", words = "LATE is what all fillings begin later than the one ahead ended (the first: than the told minute), together")
    static void s5Late() {
        BurdenHouse x = Sentences.withHearth();
        x.ladle(5);
        // 0 to 5, 65 to 70, 130 to 132
        Sentences.due("late", x.pour(12, 0), 60 + 60);
        Sentences.due("back", x.backAt(0), 192);
        Sentences.due("the first, too", x.pour(1, 190), 2);
        Sentences.due("back", x.backAt(0), 253);
        Sentences.due("just in time", x.pour(1, 253), 0);
        Sentences.due("back", x.backAt(0), 314);
        Sentences.due("in good time", x.pour(1, 400), 0);
        Sentences.due("back", x.backAt(0), 461);
    }

    @Sentences.Says(at = "Section 5", words = "and, once, what late gives (held within 0 .. 999; 0 without a TEXT)")
    static void s5LateByText() {
        String[] texts = {"late c*10", "late 0-1", "late 0", "late 998", "late 999", "late 1000", "late h", "late 2048*2048*512"};
        int[] more = {30, 0, 0, 998, 999, 999, 60, 0};
        for (int i = 0; i < texts.length; i++) {
            BurdenHouse x = Sentences.withHearth();
            x.ladle(5);
            Sentences.due("text", Sentences.read(x, texts[i]), 0);
            Sentences.due("late by " + texts[i], x.pour(12, 0), 120 + more[i]);
            Sentences.due("back as without it", x.backAt(0), 192);
        }
        BurdenHouse z = Sentences.withHearth();
        z.ladle(5);
        Sentences.read(z, "late c");
        Sentences.due("three fillings", z.pour(12, 0), 120 + 3);
        Sentences.due("one filling", z.pour(1, 9999), 1);
        BurdenHouse y = Sentences.withHearth();
        y.ladle(5);
        Sentences.due("without a text", y.pour(12, 0), 120);
    }

    @Sentences.Says(at = "Section 5", words = {"filling takes as many minutes as tons;", "a ladle that was filled is back AWAY minutes (1 .. 999; 60 at first) behind its end"})
    static void s5Away() {
        BurdenHouse x = Sentences.withHearth();
        x.ladle(5);
        x.ladle(5);
        x.pour(3, 10);
        Sentences.row("60 at first", Sentences.answers(2, x::backAt), 73, 0);
        Sentences.due("rule", x.rule(2, 1), 60);
        x.pour(3, 100);
        Sentences.row("1", Sentences.answers(2, x::backAt), 73, 104);
        Sentences.due("rule", x.rule(2, 999), 1);
        x.pour(3, 200);
        Sentences.row("999", Sentences.answers(2, x::backAt), 1202, 104);
        Sentences.each("away", BAD, v -> x.rule(2, v), 0, -1, 1000);
    }

    @Sentences.Says(at = "Section 5", words = "A POUR of n IRON out of THE HEARTH (by a CAST of n) from a minute on")
    static void s5PourCasts() {
        BurdenHouse x = Sentences.withHearth();
        x.ladle(99);
        x.pour(7, 0);
        Sentences.row("as a cast of 7", Sentences.hearth(x), 83, 33, 70, 212);
        Sentences.due("more than there is", x.pour(84, 0), NO);
        Sentences.due("all of it", x.pour(83, 100), 0);
        Sentences.row("nothing is left", Sentences.hearth(x), 0, 0, 0, 0);
    }

    @Sentences.Says(at = "Section 5", words = "SHEETS 0 .. 3 are rows of shorts (sort 0) or floats (1; whole numbers), with 0 to 24 places, or MISSING (at first).")
    static void s5Sheets() {
        BurdenHouse x = new BurdenHouse();
        for (int sheet = 0; sheet < 4; sheet++) {
            Sentences.due("missing at first", x.tops(sheet, 0), NOTHING);
            for (int sort = 0; sort < 2; sort++) {
                Sentences.due("24 places", x.sheet(sheet, sort, 24), 24);
                Sentences.due("the last", x.mark(sheet, 23, 1), 1);
                Sentences.due("above", x.sheet(sheet, sort, 25), BAD);
                Sentences.due("as it was", x.mark(sheet, 23, 1), 1);
                Sentences.due("0 places", x.sheet(sheet, sort, 0), 0);
                Sentences.due("none there", x.mark(sheet, 0, 1), INDEX);
            }
        }
        Sentences.each("sheet", BAD, sheet -> x.sheet(sheet, 0, 1), -1, 4);
        Sentences.each("sort", BAD, sort -> x.sheet(0, sort, 1), -2, 2);
    }

    @Sentences.Says(at = "Section 5", words = "A place of floats may be NO NUMBER.")
    static void s5NoNumber() {
        BurdenHouse x = new BurdenHouse();
        x.sheet(0, 1, 2);
        x.sheet(1, 0, 2);
        Sentences.due("of floats", x.mark(0, 1, NONE), 1);
        Sentences.due("of shorts", x.mark(1, 1, NONE), KIND);
        Sentences.row("floats", Sentences.places(x, 0, 2), 0, KIND);
        Sentences.row("shorts", Sentences.places(x, 1, 2), 0, 0);
        Sentences.due("a number again", x.mark(0, 1, 0), 1);
        Sentences.row("floats", Sentences.places(x, 0, 2), 0, 0);
    }

    @Sentences.Says(at = "Section 5", words = "SLOTS 0 .. 4 each hold nothing (at first), a BIN's STUFF (as it is then, for good), a SHEET (a row of its own, as it was then), or a number.")
    static void s5Slots() {
        BurdenHouse x = new BurdenHouse();
        for (int slot = 0; slot < 5; slot++) {
            Sentences.due("nothing at first", x.lay(slot, 3, slot), 0);
        }
        Sentences.row("numbers", Sentences.answers(5, i -> x.rest(i, 10)), 0, 1, 2, 3, 4);
        Sentences.each("slot", BAD, slot -> x.lay(slot, 0, 0), -1, 5);
        // a STUFF for good: its bin is gone with the image, and another one has its number
        x.keep();
        x.bin(ORE, 5000, 9);
        x.lay(0, 1, 0);
        x.back();
        x.bin(FLUX, 9900, 9);
        Sentences.due("ACID of ORE: 10 + 50/4", x.ask(0, ORE), 22);
        Sentences.due("not of FLUX", x.ask(0, FLUX), KIND);
        // a row of its own
        x.sheet(0, 1, 2);
        Sentences.marks(x, 0, 8, NONE);
        x.lay(1, 2, 0);
        x.lay(2, 2, 0);
        Sentences.marks(x, 0, 9, 9);
        x.lay(2, 2, 0);
        x.sheet(0, 0, 1);
        Sentences.row("as it was then", Sentences.answers(3, i -> x.item(1, i)), 8, KIND, INDEX);
        Sentences.row("as it was then", Sentences.answers(3, i -> x.item(2, i)), 9, 9, INDEX);
    }

    @Sentences.Says(at = "Section 5", words = "NOTHING: a SHEET is MISSING, a SLOT holds nothing;")
    static void s5Nothing() {
        BurdenHouse x = new BurdenHouse();
        x.sheet(1, 0, 2);
        x.sheet(1, -1, 0);
        for (int sheet = 0; sheet < 2; sheet++) {
            Sentences.due("mark", x.mark(sheet, 0, 0), NOTHING);
            Sentences.due("sound", x.sound(sheet, 0, 0), NOTHING);
            Sentences.due("tops", x.tops(sheet, 0), NOTHING);
            Sentences.due("copy", x.copy(sheet, 0, sheet, 0, 0), NOTHING);
            Sentences.due("lay", x.lay(0, 2, sheet), NOTHING);
        }
        x.lay(1, 3, 5);
        x.lay(1, 0, 5);
        for (int slot = 0; slot < 2; slot++) {
            Sentences.due("ask", x.ask(slot, 0), NOTHING);
            Sentences.due("item", x.item(slot, 0), NOTHING);
            Sentences.due("rest", x.rest(slot, 1), NOTHING);
        }
    }

    @Sentences.Says(at = "Section 5", words = "INDEX: there is no such place;")
    static void s5Index() {
        BurdenHouse x = new BurdenHouse();
        x.sheet(0, 0, 3);
        x.lay(0, 2, 0);
        Sentences.each("mark", INDEX, i -> x.mark(0, i, 0), -1, 3, 24, Sentences.LEAST, Sentences.MOST);
        Sentences.each("tops", INDEX, i -> x.tops(0, i), -1, 3, 24, Sentences.LEAST, Sentences.MOST);
        Sentences.each("item", INDEX, i -> x.item(0, i), -1, 3, 24, Sentences.LEAST, Sentences.MOST);
        Sentences.each("copy", INDEX, i -> x.copy(0, i, 0, 0, 1), -1, 3, 24, Sentences.LEAST, Sentences.MOST);
        Sentences.each("copy", INDEX, i -> x.copy(0, 0, 0, i, 1), -1, 3, 24, Sentences.LEAST, Sentences.MOST);
        Sentences.each("the ends are there", 1, i -> x.mark(0, i, 0), 0, 2);
    }

    @Sentences.Says(at = "Section 5", words = "SIZE: a number of places is below 0;")
    static void s5Size() {
        BurdenHouse x = new BurdenHouse();
        for (int sort = 0; sort < 2; sort++) {
            int of = sort;
            Sentences.each("sheet", SIZE, n -> x.sheet(0, of, n), -1, -24, Sentences.LEAST);
        }
        Sentences.due("still missing", x.mark(0, 0, 0), NOTHING);
        Sentences.due("0 is none below 0", x.sheet(0, 0, 0), 0);
    }

    @Sentences.Says(at = "Section 5", words = "KIND: it is none (of a KIND, a number, or another thing).")
    static void s5Kind() {
        BurdenHouse x = Sentences.withBin(COKE, 0, 9);
        x.sheet(0, 1, 1);
        x.mark(0, 0, NONE);
        x.lay(0, 1, 0);
        x.lay(1, 2, 0);
        x.lay(2, 3, 7);
        Sentences.due("of a KIND", x.as(0, ORE), KIND);
        Sentences.due("of a KIND", x.ask(0, ORE), KIND);
        Sentences.row("no STUFF", Sentences.answers(3, i -> x.ask(i, COKE)), 10, KIND, KIND);
        Sentences.row("no number in a place, no SHEET", Sentences.answers(3, i -> x.item(i, 0)), KIND, KIND, KIND);
        Sentences.row("no number in a SLOT", Sentences.answers(3, i -> x.rest(i, 4)), KIND, KIND, 3);
    }

    @Sentences.Says(at = "Section 5", words = "AN IMAGE keeps all but SHEETS, SLOTS, numbers that wait, THE TAPE;")
    static void s5ImageKeepsNot() {
        BurdenHouse x = new BurdenHouse();
        x.sheet(0, 0, 1);
        x.lay(0, 3, 5);
        x.tell(1);
        x.feed(1, 2, 3);
        x.keep();
        x.sheet(0, 0, 2);
        x.mark(0, 1, 6);
        x.lay(0, 3, 6);
        x.lay(1, 3, 7);
        x.tell(2);
        x.feed(4, 5, 6);
        x.back();
        Sentences.row("the sheet", Sentences.places(x, 0, 3), 0, 6, INDEX);
        Sentences.row("the slots", Sentences.answers(2, i -> x.rest(i, 10)), 6, 7);
        Sentences.due("numbers that wait", x.count(7), 2);
        Sentences.due("the tape", x.count(8), 24);
    }

    @Sentences.Says(at = "Section 5", words = "all can become as it is (again and again).")
    static void s5ImageAgain() {
        BurdenHouse x = Sentences.withHearth();
        x.choose(1);
        x.ladle(9);
        Sentences.read(x, "gas 40");
        x.charge(0, 40);
        x.charge(1, 8);
        int[] resistances = Sentences.rings(x, 1);
        Sentences.due("keep", x.keep(), 60);
        for (int i = 0; i < 3; i++) {
            x.bin(STUFF, 0, 0);
            x.fill(0, 7);
            x.turns(0, 9);
            x.rule(0, 5);
            x.rule(1, 6);
            x.rule(2, 7);
            x.clear();
            x.choose(0);
            x.choose(2);
            x.ladle(8);
            x.pour(9, 70);
            Sentences.read(x, "gas 900");
            x.run(60);
            Sentences.due("all is eaten", x.count(1), 0);
            x.charge(2, 300);
            x.charge(2, 20);
            x.run(1);
            Sentences.due("back", x.back(), 60);
            Sentences.row("counts", Sentences.answers(7, x::count), 3, 2, 38, 1, 1, 1, 60);
            Sentences.row("hearth", Sentences.hearth(x), 90, 35, 75, 214);
            Sentences.row("the bin", Sentences.answers(6, w -> x.told(0, w)), 1, 90, 10, 9859, 13579, 3);
            Sentences.row("the lowest layer", Sentences.answers(4, w -> x.layer(0, w)), 0, 60, 40, 30);
            Sentences.row("the layer on top", Sentences.answers(4, w -> x.layer(1, w)), 1, 60, 8, 8);
            Sentences.row("the resistances", Sentences.rings(x, 1), resistances);
            Sentences.due("the ladle", x.backAt(0), 0);
            Sentences.due("the told bin", x.choose(1), NO);
            Sentences.due("the text that counts", x.why(1, 0), 0);
            Sentences.due("slope", x.rule(0, 60), 60);
            Sentences.due("gas", x.rule(1, 999), 999);
            Sentences.due("away", x.rule(2, 60), 60);
        }
        // ORE: IRON 36, ACID 4 + 4/4; FLUX: LIME 6
        x.run(60);
        Sentences.row("what the layers bring", Sentences.hearth(x), 90 + 36, 35 + 5, 75 + 6, 202);
    }

    @Sentences.Says(at = "Section 5", words = "behind each of n HOURS from THE IMAGE on (nothing being charged; above 999, too)")
    static void s5HoursTold() {
        BurdenHouse x = Sentences.withStuffInRing(4);
        Sentences.runTo(x, 998);
        x.rule(1, 0);
        x.charge(0, 9);
        Sentences.read(x, "gas (h>999)*999");
        Sentences.read(x, "draw 0 5");
        x.keep();
        x.run(1);
        x.charge(0, 50);
        // hours 998 and 999: one each; hour 1000: 7 in ring 4 (900000/15 of 1660000): 36 of 999: all go
        int[] told = {0, 8, 0, 7, 0, 0, 0, 0};
        for (int hours = 1; hours <= 4; hours++) {
            for (int i = 0; i < 2 * hours; i++) {
                x.tell(told[i]);
            }
            Sentences.due("check of " + hours, x.check(hours), 0);
        }
        for (int i = 0; i < 8; i++) {
            x.tell(i == 5 ? 6 : told[i]);
        }
        Sentences.due("wrong above 999", x.check(4), 6);
        Sentences.due("the hour stays", x.count(6), 999);
    }
}
