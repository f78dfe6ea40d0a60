/** For each promise: ordinary inputs, the edges that the document names, wrong inputs. Answers worked out by hand. */
public final class PromiseTests {
    private static final int BAD = BurdenHouse.BAD, NO = BurdenHouse.NO, FULL = BurdenHouse.FULL, NONE = BurdenHouse.NONE,
        NOTHING = BurdenHouse.NOTHING, KIND = BurdenHouse.KIND, INDEX = BurdenHouse.INDEX, SIZE = BurdenHouse.SIZE;
    private static final int LEAST = Integer.MIN_VALUE, MOST = Integer.MAX_VALUE;
    private static int wrong = 0;
    private static int promise = 0;

    public static void main(String[] args) {
        newObject();
        bins();
        stuffs();
        furnace();
        hours();
        texts();
        programs();
        burdens();
        ladles();
        sheets();
        slots();
        rows();
        images();
        System.out.println(wrong == 0 ? "all answers are as due" : wrong + " answers are not as due");
        if (wrong != 0) {
            System.exit(1);
        }
    }

    private static void due(String what, long got, long due) {
        if (got != due) {
            wrong++;
            System.out.println("promise " + promise + ": " + what + " answered " + got + ", due is " + due);
        }
    }

    /** Puts a text on the empty tape by feed and trim. */
    private static void type(BurdenHouse x, String text) {
        x.trim(0);
        for (int i = 0; i < text.length(); i += 12) {
            x.feed(four(text, i), four(text, i + 4), four(text, i + 8));
        }
        due("trim of " + text, x.trim(text.length()), text.length());
    }

    private static int four(String text, int from) {
        int all = 0;
        for (int i = from; i < from + 4; i++) {
            all = all * 256 + (i < text.length() ? text.charAt(i) : 0);
        }
        return all;
    }

    private static int read(BurdenHouse x, String text) {
        type(x, text);
        return x.text();
    }

    private static void row(String what, int[] got, int... due) {
        for (int i = 0; i < due.length; i++) {
            due(what + " " + i, got[i], due[i]);
        }
    }

    private static int[] layer(BurdenHouse x, int layer) {
        int[] all = new int[9];
        for (int i = 0; i < 9; i++) {
            all[i] = x.layer(layer, i);
        }
        return all;
    }

    private static int[] hearth(BurdenHouse x) {
        return new int[] {x.hearth(0), x.hearth(1), x.hearth(2), x.hearth(3)};
    }

    private static int[] rings(BurdenHouse x, int what) {
        return new int[] {x.ring(0, what), x.ring(1, what), x.ring(2, what), x.ring(3, what), x.ring(4, what)};
    }

    private static int[] counts(BurdenHouse x) {
        int[] all = new int[9];
        for (int i = 0; i < 9; i++) {
            all[i] = x.count(i);
        }
        return all;
    }

    /** A furnace whose hearth holds 90 iron, 35 acid and 75 lime after one hour. */
    private static BurdenHouse withHearth() {
        BurdenHouse x = new BurdenHouse();
        x.bin(1, 9010, 9999);
        x.bin(5, 7503, 9999);
        x.bin(0, 0, 9999);
        x.rule(1, 999);
        x.charge(0, 100);
        x.charge(1, 100);
        x.charge(2, 230);
        x.run(4);
        return x;
    }

    private static void newObject() {
        promise = 1;
        BurdenHouse x = new BurdenHouse();
        row("count", counts(x), 0, 0, 0, 0, 0, 0, 0, 0, 0);
        row("hearth", hearth(x), 0, 0, 0, 0);
        row("tops", rings(x, 0), 0, 0, 0, 0, 0);
        row("resistances", rings(x, 1), 1, 1, 1, 1, 1);
        row("gas", rings(x, 2), 4, 12, 20, 28, 36);
        row("eaten", rings(x, 3), 2, 4, 6, 8, 10);
        due("rule(0)", x.rule(0, 1), 60);
        due("rule(1)", x.rule(1, 1), 100);
        due("rule(2)", x.rule(2, 1), 60);
        due("told(0)", x.told(0, 0), BAD);
        due("of(0)", x.of(0, 1, 0), BAD);
        due("layer(0)", x.layer(0, 0), BAD);
        due("down(0)", x.down(0), BAD);
        due("why", x.why(1, 0), NONE);
        due("textTold", x.textTold(0, 0), BAD);
        due("backAt", x.backAt(0), BAD);
        due("back", x.back(), NO);
        due("round", x.round(), 0);
        for (int i = 0; i < 4; i++) {
            due("sound", x.sound(i, 0, 0), NOTHING);
        }
        for (int i = 0; i < 5; i++) {
            due("lay", x.lay(i, 0, 0), 0);
        }
        new BurdenHouse().bin(0, 0, 0);
        due("another object's bins", x.count(0), 0);
    }

    private static void bins() {
        promise = 2;
        BurdenHouse x = new BurdenHouse();
        int[][] bad = {{-1, 0, 0}, {6, 0, 0}, {LEAST, 0, 0}, {MOST, 0, 0}, {0, -1, 0}, {0, 10000, 0}, {0, 0, -1}, {0, 0, 10000}, {0, LEAST, 0}, {0, 0, MOST}};
        for (int[] b : bad) {
            due("bin bad", x.bin(b[0], b[1], b[2]), BAD);
        }
        due("bin", x.bin(0, 0, 0), 0);
        due("bin", x.bin(5, 9999, 9999), 1);
        due("bin", x.bin(3, 7, 12), 2);
        due("bin", x.bin(4, 700, 12), 3);
        due("bin", x.bin(1, 6012, 500), 4);
        due("bin", x.bin(2, 90, 1), 5);
        due("count", x.count(0), 6);
        due("bin full", x.bin(0, 0, 0), FULL);
        due("bin bad ahead of full", x.bin(6, 0, 0), BAD);
        promise = 3;
        int[][] told = {{0, 0, 0, 0, 22222, 2}, {5, 99, 99, 9999, 22222, 2}, {3, 0, 7, 12, 22222, 1}, {4, 7, 0, 12, 22222, 5}, {1, 60, 12, 500, 22222, 3}, {2, 0, 90, 1, 22222, 1}};
        for (int bin = 0; bin < 6; bin++) {
            for (int what = 0; what < 6; what++) {
                due("told " + bin + " " + what, x.told(bin, what), told[bin][what]);
            }
        }
        due("told bad", x.told(6, 0), BAD);
        due("told bad", x.told(-1, 0), BAD);
        due("told bad", x.told(0, -1), BAD);
        due("told bad", x.told(0, 6), BAD);
        due("told bad", x.told(MOST, LEAST), BAD);
        promise = 6;
        due("fill", x.fill(0, 1), 1);
        due("fill", x.fill(0, 9998), 9999);
        due("fill full", x.fill(0, 1), FULL);
        due("fill full changes nothing", x.told(0, 3), 9999);
        due("fill", x.fill(2, 9987), 9999);
        due("fill full", x.fill(1, 9999), FULL);
        due("fill bad", x.fill(3, 0), BAD);
        due("fill bad", x.fill(3, 10000), BAD);
        due("fill bad", x.fill(3, LEAST), BAD);
        due("fill bad", x.fill(3, MOST), BAD);
        due("fill bad", x.fill(6, 1), BAD);
        due("fill bad", x.fill(-1, 1), BAD);
        promise = 7;
        due("turns", x.turns(3, 1), 22222);
        due("turns", x.turns(3, 99999), 1);
        due("turns bad", x.turns(3, 0), BAD);
        due("turns bad", x.turns(3, 100000), BAD);
        due("turns bad", x.turns(3, -1), BAD);
        due("turns bad", x.turns(-1, 1), BAD);
        due("turns bad", x.turns(6, 1), BAD);
        due("turns told", x.told(3, 4), 99999);
        due("turns", x.turns(3, 12345), 99999);
        promise = 8;
        due("rule", x.rule(0, 999), 60);
        due("rule", x.rule(0, 1), 999);
        due("rule bad", x.rule(0, 0), BAD);
        due("rule bad", x.rule(0, 1000), BAD);
        due("rule", x.rule(1, 0), 100);
        due("rule", x.rule(1, 999), 0);
        due("rule bad", x.rule(1, -1), BAD);
        due("rule bad", x.rule(1, 1000), BAD);
        due("rule", x.rule(2, 999), 60);
        due("rule", x.rule(2, 1), 999);
        due("rule bad", x.rule(2, 0), BAD);
        due("rule bad", x.rule(2, 1000), BAD);
        due("rule bad", x.rule(-1, 1), BAD);
        due("rule bad", x.rule(3, 1), BAD);
        due("rules stand", x.rule(0, 5), 1);
        promise = 9;
        due("empty", x.empty(4, 1), 500);
        due("empty", x.empty(4, 499), 1);
        due("empty", x.empty(4, 501), 0);
        due("empty", x.empty(4, 500), 1);
        due("empty", x.empty(0, 999), 10);
        due("empty bad", x.empty(4, 0), BAD);
        due("empty bad", x.empty(4, 1000), BAD);
        due("empty bad", x.empty(4, -3), BAD);
        due("empty bad", x.empty(6, 1), BAD);
        due("empty bad", x.empty(-1, 1), BAD);
    }

    private static void stuffs() {
        promise = 4;
        BurdenHouse x = new BurdenHouse();
        x.bin(0, 5000, 10);
        x.bin(1, 6012, 11);
        x.bin(2, 7090, 12);
        x.bin(3, 5520, 13);
        x.bin(4, 3330, 14);
        x.bin(5, 8005, 15);
        // of 999 tons; the fourth 249, the tenth 99, the twentieth 49, the eighth 124
        int[][] of999 = {{999, 0, 99, 0}, {750, 599, 199, 0}, {1998, 0, 99, 0}, {750, 500, 223, 124}, {999, 0, 99, 0}, {999, 0, 0, 799}};
        for (int bin = 0; bin < 6; bin++) {
            for (int what = 0; what < 4; what++) {
                due("of " + bin + " 999 " + what, x.of(bin, 999, what), of999[bin][what]);
                due("of " + bin + " 0 " + what, x.of(bin, 0, what), 0);
            }
        }
        due("of 3 tons", x.of(1, 3, 0), 3);
        due("of 4 tons", x.of(1, 4, 0), 3);
        due("of 7 tons", x.of(1, 7, 2), 0);
        due("of 8 tons", x.of(1, 8, 2), 1);
        due("of 19 tons of sinter", x.of(3, 19, 1), 10);
        due("of 20 tons of sinter", x.of(3, 20, 1), 10);
        due("of 7 tons of sinter", x.of(3, 7, 3), 0);
        due("of 8 tons of sinter", x.of(3, 8, 3), 1);
        BurdenHouse poor = new BurdenHouse();
        poor.bin(3, 200, 1);
        due("iron is 0 at least", poor.of(0, 100, 1), 0);
        due("acid by its own iron", poor.of(0, 100, 2), 35);
        due("of bad", x.of(0, -1, 0), BAD);
        due("of bad", x.of(0, 1000, 0), BAD);
        due("of bad", x.of(6, 1, 0), BAD);
        due("of bad", x.of(-1, 1, 0), BAD);
        due("of bad", x.of(0, 1, -1), BAD);
        due("of bad", x.of(0, 1, 4), BAD);
        due("of bad", x.of(LEAST, MOST, 0), BAD);
        promise = 5;
        boolean[][] is = {
            {true, false, false, false, false, false}, {true, true, false, false, false, false}, {true, false, true, false, false, false},
            {true, true, false, true, false, false}, {true, false, true, false, true, false}, {true, false, false, false, false, true}};
        for (int bin = 0; bin < 6; bin++) {
            for (int kind = 0; kind < 6; kind++) {
                due("as " + bin + " " + kind, x.as(bin, kind), is[bin][kind] ? 10 + bin : KIND);
            }
            due("as bad", x.as(bin, -1), BAD);
            due("as bad", x.as(bin, 6), BAD);
        }
        due("as bad", x.as(6, 0), BAD);
        due("as bad", x.as(-1, 0), BAD);
        due("as bad", x.as(LEAST, MOST), BAD);
    }

    private static void furnace() {
        promise = 10;
        BurdenHouse x = new BurdenHouse();
        x.bin(0, 0, 9999);
        x.rule(0, 999);
        // 7 by 1, 1, 1, 1, 1: one each, two left, like rests: the lesser rings
        x.turns(0, 11111);
        due("charge", x.charge(0, 7), 1);
        row("layer", layer(x, 0), 0, 0, 7, 7, 2, 2, 1, 1, 1);
        // 10 by 1, 2, 0, 3, 1 (7): 10/7, 20/7, 0, 30/7, 10/7: parts 1 2 0 4 1, rests 3 6 0 2 3: left 2: to 1, then 0
        x.turns(0, 12031);
        due("charge", x.charge(0, 10), 2);
        row("layer", layer(x, 1), 0, 0, 10, 10, 2, 3, 0, 4, 1);
        due("tons are gone", x.told(0, 3), 9982);
        // 9 by 0, 0, 0, 0, 4: all in ring 4, 0 ahead
        x.turns(0, 4);
        due("charge", x.charge(0, 9), 3);
        row("layer", layer(x, 2), 0, 0, 9, 9, 0, 0, 0, 0, 9);
        promise = 12;
        row("tops", rings(x, 0), 400, 166, 20, 71, 122);
        row("resistances", rings(x, 1), 9, 11, 3, 11, 23);
        // weights 11111, 27272, 166666, 63636, 39130 (307815): gas 100: 3 8 54 20 12, rests .61 .86 .14 .67 .71: left 3: 1, 4, 3
        row("gas", rings(x, 2), 3, 9, 54, 21, 13);
        row("eaten", rings(x, 3), 1, 3, 14, 6, 4);
        due("ring bad", x.ring(-1, 0), BAD);
        due("ring bad", x.ring(5, 0), BAD);
        due("ring bad", x.ring(0, -1), BAD);
        due("ring bad", x.ring(0, 4), BAD);
        due("ring bad", x.ring(MOST, LEAST), BAD);
        x.rule(1, 0);
        row("no gas", rings(x, 2), 0, 0, 0, 0, 0);
        row("eaten without gas", rings(x, 3), 1, 1, 1, 1, 1);
        slides();
        promise = 10;
        x = new BurdenHouse();
        x.bin(1, 0, 24);
        due("charge bad", x.charge(0, 0), BAD);
        due("charge bad", x.charge(0, 1000), BAD);
        due("charge bad", x.charge(1, 1), BAD);
        due("charge bad", x.charge(-1, 1), BAD);
        due("charge bad", x.charge(0, -5), BAD);
        due("charge more than there is", x.charge(0, 25), NO);
        for (int i = 1; i <= 24; i++) {
            due("charge", x.charge(0, 1), i);
        }
        due("charge: no tons ahead of no room", x.charge(0, 1), NO);
        x.fill(0, 5);
        due("charge full", x.charge(0, 1), FULL);
        due("full changes nothing", x.told(0, 3), 5);
        promise = 11;
        due("layer bad", x.layer(24, 0), BAD);
        due("layer bad", x.layer(-1, 0), BAD);
        due("layer bad", x.layer(0, -1), BAD);
        due("layer bad", x.layer(0, 9), BAD);
        due("layer bad", x.layer(LEAST, MOST), BAD);
        due("the topmost layer", x.layer(23, 3), 1);
    }

    private static void slides() {
        promise = 10;
        BurdenHouse x = new BurdenHouse();
        x.bin(0, 0, 9999);
        x.turns(0, 90000);
        // 2 | 0, 1 | 1 (tops 100 and 33), 0 | 2 (0 and 66), 1 | 1 and so on: behind 400 it is as behind 2
        x.charge(0, 2);
        row("slides", layer(x, 0), 0, 0, 2, 2, 0, 2, 0, 0, 0);
        x.rule(0, 70);
        x.turns(0, 90);
        // 7 in ring 3 (100), ring 2 is 0: 6 | 1 (85 and 20), and ring 4 is 0: 5 | 1 to it (71 and 11): then ring 3 has 5
        x.charge(0, 7);
        row("to the left ahead of the right", layer(x, 1), 0, 0, 7, 7, 0, 0, 1, 5, 1);
        // 40 more: 32 of the 400 slides bring it to 10 | 28 | 2, then one goes to and fro, which 400 ends where it began
        BurdenHouse y = new BurdenHouse();
        y.bin(0, 0, 9999);
        y.turns(0, 90000);
        y.charge(0, 40);
        row("slides 400 times", layer(y, 0), 0, 0, 40, 40, 10, 28, 2, 0, 0);
        // of 999 tons 400 go at the most: they are not at rest then
        BurdenHouse z = new BurdenHouse();
        z.bin(0, 0, 9999);
        z.turns(0, 90000);
        z.charge(0, 999);
        due("no more than 400 go from ring 0", z.layer(0, 4) >= 599 ? 1 : 0, 1);
        due("all are there", z.layer(0, 3), 999);
        // only of the layer on top something slides: ring 4 is the higher one (900), but it has none of it
        BurdenHouse w = new BurdenHouse();
        w.bin(0, 0, 9999);
        w.rule(0, 999);
        w.turns(0, 1);
        w.charge(0, 81);
        w.rule(0, 1);
        w.turns(0, 10);
        w.charge(0, 7);
        row("the lowest stays", layer(w, 0), 0, 0, 81, 81, 0, 0, 0, 0, 81);
        due("none goes up", w.layer(1, 8), 0);
        due("all of it is there", w.layer(1, 3), 7);
        BurdenHouse v = new BurdenHouse();
        v.bin(0, 0, 9999);
        v.rule(0, 900);
        v.turns(0, 90000);
        v.charge(0, 9);
        row("as much as slope stays", layer(v, 0), 0, 0, 9, 9, 9, 0, 0, 0, 0);
        v.charge(0, 1);
        row("more than slope slides", layer(v, 1), 0, 0, 1, 1, 0, 1, 0, 0, 0);
    }

    private static void hours() {
        promise = 13;
        BurdenHouse x = new BurdenHouse();
        x.bin(1, 5010, 9999);
        x.bin(5, 8000, 9999);
        due("run bad", x.run(0), BAD);
        due("run bad", x.run(61), BAD);
        due("run bad", x.run(-1), BAD);
        due("run bad", x.run(LEAST), BAD);
        x.rule(0, 999);
        x.turns(0, 13579);
        x.turns(1, 1);
        // ORE: 100 tons: BULK 75; IRON 50, ACID 10 + 12; FLUX 20 tons: BULK 20, LIME 16
        x.charge(0, 100);
        x.charge(1, 20);
        row("ore", layer(x, 0), 0, 0, 100, 75, 3, 9, 15, 21, 27);
        row("resistances", rings(x, 1), 10, 28, 46, 64, 122);
        // weights 10000 10714 10869 10937 7377 (49897): gas 100: 20 21 21 21 14, rests .04 .47 .782 .91 .784: left 3: 3, 4, 2
        row("gas", rings(x, 2), 20, 21, 22, 22, 15);
        row("eaten", rings(x, 3), 6, 6, 6, 6, 4);
        due("run", x.run(1), 1);
        row("ore", layer(x, 0), 0, 0, 100, 50, 0, 3, 9, 15, 23);
        row("flux", layer(x, 1), 1, 0, 20, 20, 0, 0, 0, 0, 20);
        promise = 15;
        // 25 of 75 went: IRON 50*25/75 = 16, ACID 22*25/75 = 7
        row("hearth", hearth(x), 16, 7, 0, 0);
        due("hearth bad", x.hearth(-1), BAD);
        due("hearth bad", x.hearth(4), BAD);
        due("hearth bad", x.hearth(LEAST), BAD);
        promise = 17;
        int ore = x.down(0);
        int flux = x.down(1);
        due("down changes nothing", x.count(6), 1);
        row("down changes nothing", hearth(x), 16, 7, 0, 0);
        due("down bad", x.down(2), BAD);
        due("down bad", x.down(-1), BAD);
        due("down bad", x.down(MOST), BAD);
        due("ore is ahead of flux", ore < flux ? 1 : 0, 1);
        for (int hour = 1; hour < ore; hour++) {
            x.run(1);
        }
        due("ore in the hour that down told", x.count(1), 2);
        due("down in the open hour", x.down(0), ore);
        x.run(1);
        promise = 13;
        due("flux is the lowest now", x.layer(0, 0), 1);
        due("one layer is gone", x.count(1), 1);
        promise = 15;
        due("all its iron", x.hearth(0), 50);
        due("all its acid", x.hearth(1), 22);
        for (int hour = ore + 1; hour <= flux; hour++) {
            x.run(1);
        }
        due("nothing is left", x.count(2), 0);
        row("hearth", hearth(x), 50, 22, 16, 72);
        lateHours();
        casts();
    }

    private static void lateHours() {
        promise = 17;
        // without gas one of each ring goes in an hour: 60 in ring 4 (at hour 0): the last goes in hour 59
        BurdenHouse x = new BurdenHouse();
        x.bin(0, 0, 9999);
        x.turns(0, 1);
        x.rule(0, 999);
        x.rule(1, 0);
        x.charge(0, 60);
        due("down: the 60th hour", x.down(0), 59);
        x.charge(0, 1);
        due("down: not within 60", x.down(1), NONE);
        due("down of the lower one", x.down(0), 59);
        x.run(1);
        due("down: the 60th hour from the open one", x.down(1), 60);
        promise = 13;
        for (int i = 0; i < 15; i++) {
            x.run(60);
        }
        x.run(59);
        due("the hour", x.count(6), 960);
        due("run full", x.run(40), FULL);
        due("full changes nothing", x.count(6), 960);
        due("run", x.run(38), 998);
        x.charge(0, 30);
        due("the hour of a layer", x.layer(0, 1), 998);
        promise = 17;
        due("down above 999", x.down(0), 1027);
        promise = 13;
        due("run to the last hour", x.run(1), 999);
        due("run full", x.run(1), FULL);
        due("run bad ahead of full", x.run(0), BAD);
        promise = 17;
        read(x, "gas (h>999)*999");
        // hour 999: one goes, 28 are left; then gas goes to all rings, ring 4 with 29 - 1 .. holds it
        due("down by gas above 999 is sooner", x.down(0) < 1027 ? 1 : 0, 1);
    }

    private static void casts() {
        promise = 16;
        BurdenHouse x = withHearth();
        due("cast bad", x.cast(0), BAD);
        due("cast bad", x.cast(10000), BAD);
        due("cast bad", x.cast(-1), BAD);
        int iron = x.hearth(0);
        int acid = x.hearth(1);
        int lime = x.hearth(2);
        due("there is iron", iron > 10 ? 1 : 0, 1);
        due("there is acid", acid > 3 ? 1 : 0, 1);
        due("there is lime", lime > 3 ? 1 : 0, 1);
        due("cast too much", x.cast(iron + 1), NO);
        due("a cast that is refused changes nothing", x.hearth(0), iron);
        due("cast", x.cast(7), iron - 7);
        row("hearth", hearth(x), iron - 7, acid - acid * 7 / iron, lime - lime * 7 / iron);
        due("basic", x.hearth(3), 100 * x.hearth(2) / x.hearth(1));
        due("cast all", x.cast(iron - 7), 0);
        row("hearth", hearth(x), 0, 0, 0, 0);
        due("cast of nothing", x.cast(1), NO);
    }

    private static void texts() {
        promise = 18;
        BurdenHouse x = new BurdenHouse();
        for (int i = 1; i <= 8; i++) {
            due("feed", x.feed(i, -i, LEAST), 12 * i);
        }
        due("feed full", x.feed(0, 0, 0), FULL);
        due("full changes nothing", x.count(8), 96);
        x.trim(85);
        due("feed full", x.feed(0, 0, 0), FULL);
        x.trim(84);
        due("feed", x.feed(0, 0, 0), 96);
        promise = 19;
        due("trim bad", x.trim(97), BAD);
        due("trim bad", x.trim(-1), BAD);
        due("trim", x.trim(96), 96);
        due("trim", x.trim(50), 50);
        due("trim bad", x.trim(51), BAD);
        due("bad changes nothing", x.count(8), 50);
        due("trim", x.trim(0), 0);
        promise = 20;
        due("no bytes", x.text(), -100);
        due("high bytes are signs", read(x, "gas \u00e9"), -104);
        due("big letters are signs", read(x, "Gas h"), -100);
        due("another blank", read(x, "gas\th"), -103);
        String[][] faults = {
            {"gasz h", "0"}, {"zgas h", "0"}, {"dra 0 h", "0"}, {"  draws 0 h", "2"}, {"gash", "0"}, {"5", "0"}, {"(", "0"}, {" ", "1"}, {"gas", "3"}, {"gas  ", "5"},
            {"draw", "4"}, {"draw ", "5"}, {"draw 6 h", "5"}, {"draw 12345 h", "5"}, {"draw 00006 h", "5"}, {"draw 0006 h", "5"}, {"draw0 h", "4"},
            {"draw h 0", "5"}, {"draw (0) h", "5"}, {"draw 0", "6"}, {"draw 0h", "6"}, {"draw 0 12345", "7"}, {"draw 0 c", "7"}, {"draw 0 i", "7"},
            {"draw 0 hh", "7"}, {"draw 0 h h", "9"}, {"draw 0 h5", "8"}, {"draw 0 5h", "8"}, {"draw 0 5 5", "9"}, {"gas b", "4"}, {"gas s", "4"},
            {"gas c", "4"}, {"late t", "5"}, {"late b", "5"}, {"late s", "5"}, {"late i", "5"}, {"late5", "4"}, {"gas h<1<2", "7"},
            {"gas h=1>2", "7"}, {"gas h<1+2*3=4", "11"}, {"gas (h<1)<2<3", "11"}, {"gas h<", "6"}, {"gas h|", "6"}, {"gas !", "5"}, {"gas h!", "5"},
            {"gas -1", "4"}, {"gas 1+-1", "6"}, {"gas ()", "5"}, {"gas (h", "6"}, {"gas (h  ", "8"}, {"gas h)", "5"}, {"gas (h))", "7"}, {"gas h(1)", "5"},
            {"gas (h)h", "7"}, {"gas (h)(h)", "7"}, {"gas h&&h", "6"}, {"gas h,", "5"}, {"gas ((((((((h))))))))+1)", "23"},
            {"gas (((((((((h)))))))))", "12"}, {"gas !!!!!!!!!h", "12"}, {"gas !!!!(!!!!(!h))", "14"}, {"gas (((((((h*((h)))))))))", "14"}};
        for (String[] fault : faults) {
            due("fault of " + fault[0], read(x, fault[0]), -100 - Integer.parseInt(fault[1]));
            due("the tape is used up", x.count(8), 0);
        }
        due("no text came to be", x.count(3), 0);
        String full = "late 1+2+3+4+5+6+7+8+9+1+2+3+4+5+6+7+8+9+1+2+3+4+5+6+7+8+9+1+2+3+4+5+6+7+8+9+1+2+3+4+5+6+7+8+9+c";
        due("a text of 95 bytes", full.length() + 1, 97);
        String[] good = {"draw 0 h", "  draw  5  t  ", "gas((((((((h))))))))", "gas !!!!!!!!h+!!!!!!!!h", "late!(!(!(!(!(!(!(!c)))))))",
            "draw 0003 9999*s/b", "gas h<1&t=2|i>3", "gas(h<1)<(2<3)", full, "gas (h)+(h)", "draw 1(h)", "late c"};
        for (int i = 0; i < good.length; i++) {
            due("text " + good[i], read(x, good[i]), i);
            due("the tape is used up", x.count(8), 0);
        }
        due("count", x.count(3), 12);
        due("fault ahead of full", read(x, "gas"), -103);
        due("full", read(x, "gas 1"), FULL);
        due("the tape is used up", x.count(8), 0);
        promise = 21;
        int[][] told = {{0, 0, 1}, {0, 5, 1}, {1, NONE, 1}, {1, NONE, 2}, {2, NONE, 1}, {0, 3, 3}, {1, NONE, 6}, {1, NONE, 4}, {2, NONE, 46}, {1, NONE, 2}, {0, 1, 1}, {2, NONE, 1}};
        for (int i = 0; i < 12; i++) {
            for (int what = 0; what < 3; what++) {
                due("textTold " + i + " " + what, x.textTold(i, what), told[i][what]);
            }
        }
        due("textTold bad", x.textTold(12, 0), BAD);
        due("textTold bad", x.textTold(-1, 0), BAD);
        due("textTold bad", x.textTold(0, -1), BAD);
        due("textTold bad", x.textTold(0, 3), BAD);
        promise = 22;
        due("why", x.why(0, 0), 0);
        due("why", x.why(0, 1), 10);
        due("why", x.why(0, 2), NONE);
        due("why", x.why(0, 3), 5);
        due("why", x.why(0, 5), 1);
        due("why bad", x.why(0, 6), BAD);
        due("why bad", x.why(0, -1), BAD);
        due("why", x.why(1, LEAST), 9);
        due("why", x.why(2, MOST), 11);
        due("why bad", x.why(3, 0), BAD);
        due("why bad", x.why(-1, 0), BAD);
        due("why of none", new BurdenHouse().why(2, 0), NONE);
    }

    /** What a text of gas gives: all of it is parted, so the parts together are the gas. */
    private static int gas(BurdenHouse x, String e) {
        due("text " + e, read(x, "gas " + e) >= 0 ? 1 : 0, 1);
        int sum = 0;
        for (int part : rings(x, 2)) {
            sum += part;
        }
        return sum;
    }

    private static void programs() {
        promise = 12;
        BurdenHouse x = new BurdenHouse();
        Object[][] sums = {{"2+3*4", 14}, {"(2+3)*4", 20}, {"20-5-3", 12}, {"100/7/2", 7}, {"100/(7/2)", 33}, {"7/0", 0}, {"5+7/(3-3)", 5},
            {"!0", 1}, {"!5", 0}, {"!!7", 1}, {"!0+4", 5}, {"2*!0*3", 6}, {"!(2<1)+1", 2}, {"4-5", 0}, {"9999", 999}, {"1000", 999}};
        for (int i = 0; i < 12; i++) {
            due("gas by " + sums[i][0], gas(x, (String) sums[i][0]), (int) (Integer) sums[i][1]);
        }
        x = new BurdenHouse();
        for (int i = 12; i < sums.length; i++) {
            due("gas by " + sums[i][0], gas(x, (String) sums[i][0]), (int) (Integer) sums[i][1]);
        }
        // 42991400430 less ten times 4294967296 is 41727470
        due("wraps", gas(x, "9999*9999*430/9999/10"), 417);
        due("the least by -1 wraps", gas(x, "2048*2048*512/(0-1)<0"), 1);
        due("tests", gas(x, "(1<2)*100+(2<2)*50+(2=2)*20+(3>2)*4+(2>2)"), 124);
        due("and", gas(x, "(5&2)*100+(0&2)*10+(2&0)"), 100);
        due("or", gas(x, "(5|0)*100+(0|0)*10+(0|3)"), 101);
        due("or is looser than and", gas(x, "(1|1&0)*10+(0&0|1)"), 11);
        due("and is looser than tests", gas(x, "1&2<3"), 1);
        due("tests are looser than sums", gas(x, "(1+1<3)*5"), 5);
        x = new BurdenHouse();
        due("both sides", gas(x, "0&1/0|7>6"), 1);
        x.run(7);
        due("the hour", gas(x, "h*2"), 14);
        x.bin(0, 0, 999);
        x.turns(0, 1);
        x.charge(0, 90);
        due("the greatest top", gas(x, "t/10"), x.ring(4, 0) / 10);
        due("the iron", gas(withHearth(), "i+1"), withHearth().hearth(0) + 1);
        due("a later text counts", gas(x, "5"), 5);
        due("gas as told does not count", x.rule(1, 50), 100);
        due("gas as told does not count", gas(x, "6"), 6);
        rounds();
    }

    private static void rounds() {
        promise = 14;
        BurdenHouse x = new BurdenHouse();
        x.bin(0, 0, 100);
        x.bin(0, 0, 50);
        x.bin(0, 0, 999);
        x.bin(0, 0, 999);
        read(x, "draw 3 h-5");
        due("below 0 is not charged", x.round(), 0);
        read(x, "draw 0 30");
        read(x, "draw 1 9999");
        read(x, "draw 5 1");
        due("round", x.round(), 2);
        row("layer", layer(x, 0), 0, 0, 30);
        row("its tons at most", layer(x, 1), 1, 0, 50);
        due("tons", x.told(0, 3), 70);
        due("tons", x.told(1, 3), 0);
        due("an empty bin is not charged", x.round(), 1);
        read(x, "draw 0 s/2");
        x.round();
        row("tons of the bin", layer(x, 3), 0, 0, 20);
        read(x, "draw 0 0");
        read(x, "draw 3 t");
        int top = Math.max(x.ring(0, 0), Math.max(x.ring(1, 0), Math.max(x.ring(2, 0), Math.max(x.ring(3, 0), x.ring(4, 0)))));
        due("0 is not charged", x.round(), 1);
        row("the greatest top", layer(x, 4), 3, 0, Math.min(top, 999));
        due("turns at first", x.told(3, 4), 22222);
        BurdenHouse y = withHearth();
        int basic = y.hearth(3);
        int layers = y.count(1);
        due("there is lime and acid", basic > 0 ? 1 : 0, 1);
        read(y, "draw 2 b");
        read(y, "draw 0 h+1");
        due("round", y.round(), 2);
        row("the hour", layer(y, layers), 0, 4, 5);
        row("basic", layer(y, layers + 1), 2, 4, Math.min(basic, 999));
        BurdenHouse z = new BurdenHouse();
        z.bin(0, 0, 9999);
        z.bin(0, 0, 9999);
        read(z, "draw 0 1");
        read(z, "draw 1 1");
        for (int i = 0; i < 11; i++) {
            due("round", z.round(), 2);
        }
        z.charge(0, 1);
        due("room for one", z.round(), 1);
        due("room for none", z.round(), 0);
        due("no room changes nothing", z.told(1, 3), 9988);
        // what bin 0 brought counts when bin 1 draws
        BurdenHouse w = new BurdenHouse();
        w.bin(0, 0, 9999);
        w.bin(0, 0, 9999);
        w.turns(0, 1);
        w.rule(0, 999);
        read(w, "draw 0 9");
        read(w, "draw 1 t");
        due("round", w.round(), 2);
        row("at its turn", layer(w, 1), 1, 0, 100);
    }

    private static void burdens() {
        promise = 23;
        BurdenHouse x = new BurdenHouse();
        for (int i = 0; i < 5; i++) {
            x.bin(new int[] {1, 1, 5, 2, 0}[i], new int[] {5010, 6020, 9005, 90, 1}[i], 0);
        }
        due("choose", x.choose(1), 1);
        due("choose no", x.choose(1), NO);
        due("choose bad", x.choose(5), BAD);
        due("choose bad", x.choose(-1), BAD);
        due("choose", x.choose(0), 2);
        due("choose", x.choose(3), 3);
        due("choose no ahead of full", x.choose(3), NO);
        due("choose full", x.choose(4), FULL);
        due("count", x.count(4), 3);
        promise = 24;
        due("clear", x.clear(), 3);
        due("clear", x.clear(), 0);
        due("count", x.count(4), 0);
        promise = 25;
        due("burden of none", x.burden(0, 5, -1), 0);
        due("burden of none", x.burden(1, 5, -1), NONE);
        due("burden of none", x.burden(0, 1005, -1), NONE);
        due("burden of none", x.burden(0, 0, 0), BAD);
        x.choose(1);
        x.choose(0);
        // bin 1: IRON 6 a ten tons at 200; bin 0: 5 at 100: 30 IRON: 6 of bin 0 at 600
        due("burden", x.burden(30, 999, -1), 600);
        due("burden", x.burden(30, 999, 0), 0);
        due("burden", x.burden(30, 999, 1), 6);
        // 49: 9 of bin 0 (45) and 1 of bin 1: 1100
        due("burden", x.burden(49, 999, -1), 1100);
        due("burden", x.burden(49, 999, 0), 1);
        due("burden", x.burden(49, 999, 1), 9);
        due("just as much", x.burden(99, 999, -1), 2700);
        due("more than can be", x.burden(100, 999, -1), NONE);
        due("without need", x.burden(0, 999, -1), 0);
        due("what of told ones alone", x.burden(0, 999, 2), BAD);
        due("what bad", x.burden(0, 999, -2), BAD);
        due("need bad", x.burden(-1, 999, -1), BAD);
        due("need bad", x.burden(10000, 999, -1), BAD);
        due("ends bad", x.burden(0, -1, -1), BAD);
        due("ends bad", x.burden(0, 1000000, -1), BAD);
        due("ends bad: the least above the greatest", x.burden(0, 6005, -1), BAD);
        due("like ends", x.burden(0, 0, -1), 0);
        due("ends bad", x.burden(0, LEAST, -1), BAD);
        x.clear();
        x.choose(0);
        x.choose(2);
        // u of bin 0: IRON 5u, ACID u + 5u/4 (of 10u tons); v of bin 2: LIME 9v, at 50
        // u = 2: IRON 10, ACID 2 + 2 = 4; BASIC 100: 9v*100/4: v = 1: 225
        due("burden by ends", x.burden(10, 200300, -1), 250);
        due("burden by ends", x.burden(10, 200300, 0), 2);
        due("burden by ends", x.burden(10, 200300, 1), 1);
        due("the greatest end itself", x.burden(10, 225225, -1), 250);
        due("below the least end", x.burden(10, 226226, -1), NONE);
        // like prices: the first by the order told
        BurdenHouse y = new BurdenHouse();
        y.bin(1, 5010, 0);
        y.bin(1, 5010, 0);
        y.bin(0, 0, 0);
        y.choose(2);
        y.choose(1);
        y.choose(0);
        due("the first told least", y.burden(10, 0, 0), 0);
        due("the next told least", y.burden(10, 0, 1), 0);
        due("the last told has it", y.burden(10, 0, 2), 2);
        due("price", y.burden(10, 0, -1), 200);
        due("full 9 of one, the rest of the other", y.burden(50, 0, 1), 1);
    }

    private static void ladles() {
        promise = 26;
        BurdenHouse x = withHearth();
        due("pour without ladles", x.pour(1, 0), NO);
        due("ladle bad", x.ladle(0), BAD);
        due("ladle bad", x.ladle(1000), BAD);
        due("ladle bad", x.ladle(-1), BAD);
        due("ladle", x.ladle(10), 0);
        due("ladle", x.ladle(4), 1);
        due("count", x.count(5), 2);
        promise = 27;
        due("back at first", x.backAt(0), 0);
        due("back at first", x.backAt(1), 0);
        due("backAt bad", x.backAt(2), BAD);
        due("backAt bad", x.backAt(-1), BAD);
        promise = 28;
        int iron = x.hearth(0);
        int acid = x.hearth(1);
        due("pour bad", x.pour(0, 0), BAD);
        due("pour bad", x.pour(10000, 0), BAD);
        due("pour bad", x.pour(1, -1), BAD);
        due("pour bad", x.pour(1, 10000), BAD);
        due("pour no", x.pour(iron + 1, 0), NO);
        x.rule(2, 20);
        // 17 from 100 on: ladle 0 from 100 to 110 (back 130), ladle 1 to 114 (back 134), ladle 0 at 130: 16 late, to 133 (back 153)
        due("pour", x.pour(17, 100), 16);
        due("back", x.backAt(0), 153);
        due("back", x.backAt(1), 134);
        due("iron", x.hearth(0), iron - 17);
        due("acid", x.hearth(1), acid - acid * 17 / iron);
        // 5 from 120 on: ladle 1 at 134: 14 late, to 138 (back 158); ladle 0 at 153: 15 late, to 154 (back 174); late gives 2 + 4
        read(x, "late c+h");
        due("pour with late", x.pour(5, 120), 35);
        due("back", x.backAt(1), 158);
        due("back", x.backAt(0), 174);
        read(x, "late 0-c");
        due("late is 0 at least", x.pour(1, 9999), 0);
        due("back", x.backAt(1), 10020);
        read(x, "late c*1000");
        due("late is 999 at most", x.pour(1, 9999), 999);
        // ladle 0 (174) was first: 9999 to 10000, back 10020, like ladle 1: the lesser number is first
        due("back", x.backAt(0), 10020);
        read(x, "late 0");
        due("of several the least number", x.pour(1, 9999), 21);
        due("back", x.backAt(0), 10041);
        due("back", x.backAt(1), 10020);
        promise = 26;
        for (int i = 2; i < 6; i++) {
            due("ladle", x.ladle(999), i);
        }
        due("ladle full", x.ladle(1), FULL);
        due("ladle bad ahead of full", x.ladle(0), BAD);
        farLadles();
    }

    private static void farLadles() {
        promise = 27;
        BurdenHouse x = new BurdenHouse();
        x.bin(1, 9900, 9999);
        x.rule(1, 999);
        x.charge(0, 999);
        x.run(60);
        due("there is iron", x.hearth(0) > 101 ? 1 : 0, 1);
        x.ladle(1);
        x.rule(2, 999);
        // a filling each 1000 minutes: the 100th ends at 99001, back 100000; late 99 times 999
        promise = 28;
        due("late", x.pour(100, 0), 98901);
        promise = 27;
        due("above 99999: 99999", x.backAt(0), 99999);
        promise = 28;
        due("from its own minute on", x.pour(1, 0), 100000);
    }

    private static void sheets() {
        promise = 29;
        BurdenHouse x = new BurdenHouse();
        due("sheet bad", x.sheet(-1, 0, 1), BAD);
        due("sheet bad", x.sheet(4, 0, 1), BAD);
        due("sheet bad", x.sheet(0, -2, 1), BAD);
        due("sheet bad", x.sheet(0, 2, 1), BAD);
        due("sheet bad", x.sheet(0, 0, 25), BAD);
        due("sheet bad", x.sheet(0, 2, -1), BAD);
        due("sheet size", x.sheet(0, 1, -1), SIZE);
        due("sheet size", x.sheet(0, 0, LEAST), SIZE);
        due("refused: still missing", x.sound(0, 0, 0), NOTHING);
        due("sheet missing, n any", x.sheet(0, -1, 99), 0);
        due("sheet missing, n any", x.sheet(0, -1, -99), 0);
        due("sheet", x.sheet(0, 0, 24), 24);
        due("sheet", x.sheet(1, 1, 0), 0);
        due("sheet", x.sheet(3, 1, 2), 2);
        x.mark(3, 1, 5);
        due("sheet anew", x.sheet(3, 1, 2), 2);
        x.lay(0, 2, 3);
        due("all 0", x.item(0, 1), 0);
        due("sheet missing", x.sheet(3, -1, 2), 0);
        due("is missing", x.mark(3, 0, 1), NOTHING);
        promise = 30;
        due("mark", x.mark(0, 0, 32768), 1);
        due("mark", x.mark(0, 23, -32769), 1);
        due("mark", x.mark(0, 1, LEAST), 1);
        due("mark", x.mark(0, 2, 65535), 1);
        x.lay(0, 2, 0);
        due("lowest 16 bits", x.item(0, 0), -32768);
        due("lowest 16 bits", x.item(0, 23), 32767);
        due("lowest 16 bits", x.item(0, 1), 0);
        due("lowest 16 bits", x.item(0, 2), -1);
        due("mark bad", x.mark(4, 0, 0), BAD);
        due("mark bad", x.mark(-1, 0, 0), BAD);
        due("mark nothing", x.mark(2, 0, 0), NOTHING);
        due("mark index", x.mark(0, 24, 0), INDEX);
        due("mark index", x.mark(0, -1, NONE), INDEX);
        due("mark index", x.mark(1, 0, 0), INDEX);
        due("mark kind", x.mark(0, 0, NONE), KIND);
        x.sheet(1, 1, 3);
        due("mark", x.mark(1, 0, 99999), 1);
        due("mark", x.mark(1, 1, -99999), 1);
        due("mark bad", x.mark(1, 2, 100000), BAD);
        due("mark bad", x.mark(1, 2, -100000), BAD);
        due("mark index ahead of bad", x.mark(1, 3, 100000), INDEX);
        due("mark no number", x.mark(1, 2, NONE), 1);
        x.lay(0, 2, 1);
        due("floats", x.item(0, 0), 99999);
        due("floats", x.item(0, 1), -99999);
        due("floats", x.item(0, 2), KIND);
        due("known again", x.mark(1, 2, 8), 1);
        x.lay(0, 2, 1);
        due("known again", x.item(0, 2), 8);
        soundings();
        copies();
    }

    private static void soundings() {
        promise = 31;
        BurdenHouse x = new BurdenHouse();
        x.sheet(0, 1, 10);
        // 4 4 lost 6 | 5 5 5 5 | lost | 9 - first known one and lower ones are none of it: 2, then 4
        int[] marks = {4, 4, NONE, 6, 5, 5, 5, 5, NONE, 9};
        for (int i = 0; i < 10; i++) {
            x.mark(0, i, marks[i]);
        }
        due("hangs", x.sound(0, 0, 0), 4);
        due("hangs, n does not matter", x.sound(0, 0, LEAST), 4);
        due("slips", x.sound(0, 1, 0), 1);
        due("slips by more than n", x.sound(0, 1, 1), 0);
        x.mark(0, 9, -9994);
        due("hangs", x.sound(0, 0, 0), 3);
        due("slips", x.sound(0, 1, 9998), 1);
        due("slips", x.sound(0, 1, 9999), 0);
        due("slips", x.sound(0, 1, 0), 2);
        due("sound bad", x.sound(0, 1, -1), BAD);
        due("sound bad", x.sound(0, 1, 10000), BAD);
        due("sound bad", x.sound(0, -1, 0), BAD);
        due("sound bad", x.sound(0, 2, 0), BAD);
        due("sound bad", x.sound(4, 0, 0), BAD);
        due("sound bad", x.sound(-1, 0, 0), BAD);
        due("sound bad ahead of nothing", x.sound(1, 2, 0), BAD);
        due("sound nothing", x.sound(1, 0, 0), NOTHING);
        x.sheet(1, 1, 4);
        due("hangs of like ones", x.sound(1, 0, 0), 3);
        for (int i = 0; i < 4; i++) {
            x.mark(1, i, NONE);
        }
        due("none known", x.sound(1, 0, 0), 0);
        due("none known", x.sound(1, 1, 0), 0);
        x.mark(1, 3, 5);
        due("one known", x.sound(1, 0, 0), 0);
        x.sheet(2, 0, 0);
        due("no places", x.sound(2, 0, 0), 0);
        due("no places", x.sound(2, 1, 0), 0);
        promise = 32;
        x.bin(0, 0, 9999);
        x.rule(0, 999);
        x.turns(0, 97531);
        x.charge(0, 25);
        // 9 7 5 3 1 bulk: tops 900 233 100 42 11
        due("tops", x.tops(0, 0), 5);
        due("tops", x.tops(0, 7), 3);
        x.lay(0, 2, 0);
        int[] due = {900, 233, 100, 42, 11, 5, 5, 900, 233, 100};
        for (int i = 0; i < 10; i++) {
            due("tops " + i, x.item(0, i), due[i]);
        }
        due("tops bad", x.tops(-1, 0), BAD);
        due("tops bad", x.tops(4, 0), BAD);
        due("tops nothing", x.tops(3, 0), NOTHING);
        due("tops index", x.tops(0, 10), INDEX);
        due("tops index", x.tops(0, -1), INDEX);
        due("tops index", x.tops(2, 0), INDEX);
        x.turns(0, 90000);
        for (int i = 0; i < 4; i++) {
            x.charge(0, 999);
        }
        x.sheet(2, 0, 1);
        due("tops", x.tops(2, 0), 1);
        x.lay(0, 2, 2);
        due("lowest 16 bits", x.item(0, 0), (short) x.ring(0, 0));
        due("they are not all of it", x.ring(0, 0) > 65535 ? 1 : 0, 1);
        x.tops(0, 9);
        x.lay(0, 2, 0);
        due("all of it in floats", x.item(0, 9), x.ring(0, 0));
    }

    private static void copies() {
        promise = 33;
        BurdenHouse x = new BurdenHouse();
        x.sheet(0, 1, 6);
        x.sheet(1, 1, 4);
        x.sheet(2, 0, 4);
        for (int i = 0; i < 6; i++) {
            x.mark(0, i, i == 2 ? NONE : i + 1);
        }
        due("copy", x.copy(0, 0, 0, 1, 5), 5);
        x.lay(0, 2, 0);
        row("forward", items(x, 6), 1, 1, 2, KIND, 4, 5);
        due("copy", x.copy(0, 2, 0, 0, 4), 4);
        x.lay(0, 2, 0);
        row("backward", items(x, 6), 2, KIND, 4, 5, 4, 5);
        due("copy", x.copy(0, 0, 1, 1, 3), 3);
        x.lay(0, 2, 1);
        row("to another", items(x, 4), 0, 2, KIND, 4);
        due("copy none at the end", x.copy(0, 6, 1, 4, 0), 0);
        due("copy index", x.copy(0, 7, 1, 4, 0), INDEX);
        due("copy index", x.copy(0, 6, 1, 5, 0), INDEX);
        due("copy index", x.copy(0, 6, 1, 0, 1), INDEX);
        due("copy index", x.copy(0, 0, 1, 4, 1), INDEX);
        due("copy index", x.copy(0, 0, 1, 0, 5), INDEX);
        due("copy index", x.copy(0, 0, 1, 0, -1), INDEX);
        due("copy index", x.copy(0, -1, 1, 0, 1), INDEX);
        due("copy index", x.copy(0, 0, 1, -1, 1), INDEX);
        due("copy index", x.copy(0, 1, 1, 1, MOST), INDEX);
        due("copy index", x.copy(0, MOST, 1, MOST, MOST), INDEX);
        due("copy kind", x.copy(0, 0, 2, 0, 1), KIND);
        due("copy kind ahead of index", x.copy(0, 9, 2, 0, -1), KIND);
        due("copy nothing", x.copy(0, 0, 3, 0, 1), NOTHING);
        due("copy nothing", x.copy(3, 0, 0, 0, -1), NOTHING);
        due("copy bad", x.copy(4, 0, 0, 0, 1), BAD);
        due("copy bad", x.copy(0, 0, 4, 0, 1), BAD);
        due("copy bad ahead of nothing", x.copy(3, 0, -1, 0, 1), BAD);
    }

    private static int[] items(BurdenHouse x, int many) {
        int[] all = new int[many];
        for (int i = 0; i < many; i++) {
            all[i] = x.item(0, i);
        }
        return all;
    }

    private static void slots() {
        promise = 34;
        BurdenHouse x = new BurdenHouse();
        x.bin(3, 5000, 40);
        x.sheet(0, 0, 2);
        x.mark(0, 0, 7);
        due("lay", x.lay(0, 1, 0), 0);
        due("lay", x.lay(0, 2, 0), 1);
        due("lay", x.lay(0, 3, LEAST), 2);
        due("lay", x.lay(0, 0, LEAST), 3);
        due("lay", x.lay(0, 0, MOST), 0);
        due("lay bad", x.lay(-1, 0, 0), BAD);
        due("lay bad", x.lay(5, 0, 0), BAD);
        due("lay bad", x.lay(0, -1, 0), BAD);
        due("lay bad", x.lay(0, 4, 0), BAD);
        due("lay bad", x.lay(0, 1, 1), BAD);
        due("lay bad", x.lay(0, 1, -1), BAD);
        due("lay bad", x.lay(0, 2, 4), BAD);
        due("lay bad", x.lay(0, 2, -1), BAD);
        due("lay nothing", x.lay(0, 2, 1), NOTHING);
        due("refused: holds nothing", x.lay(0, 0, 0), 0);
        promise = 35;
        x.lay(1, 1, 0);
        x.lay(2, 2, 0);
        x.lay(3, 3, -17);
        // SINTER of SHARE 50: 100 tons: IRON 50 - 5, ACID 10 + 55/4
        due("ask", x.ask(1, 0), 23);
        due("ask", x.ask(1, 1), 23);
        due("ask", x.ask(1, 3), 23);
        due("ask kind", x.ask(1, 2), KIND);
        due("ask kind", x.ask(1, 4), KIND);
        due("ask kind", x.ask(1, 5), KIND);
        due("ask kind", x.ask(2, 0), KIND);
        due("ask kind", x.ask(3, 0), KIND);
        due("ask nothing", x.ask(0, 0), NOTHING);
        due("ask bad", x.ask(0, 6), BAD);
        due("ask bad", x.ask(1, -1), BAD);
        due("ask bad", x.ask(5, 0), BAD);
        due("ask bad", x.ask(-1, 0), BAD);
        promise = 36;
        due("item", x.item(2, 0), 7);
        due("item", x.item(2, 1), 0);
        due("item index", x.item(2, 2), INDEX);
        due("item index", x.item(2, -1), INDEX);
        due("item kind", x.item(1, 0), KIND);
        due("item kind", x.item(3, 0), KIND);
        due("item nothing", x.item(0, 0), NOTHING);
        due("item bad", x.item(5, 0), BAD);
        due("item bad", x.item(-1, 0), BAD);
        x.mark(0, 0, 9);
        due("a row of its own", x.item(2, 0), 7);
        x.sheet(0, -1, 0);
        due("as it was then", x.item(2, 0), 7);
        x.sheet(1, 1, 0);
        due("of nothing at all", x.lay(4, 2, 1), 0);
        due("item index", x.item(4, 0), INDEX);
        promise = 37;
        due("rest", x.rest(3, 5), -2);
        due("rest", x.rest(3, -5), -2);
        due("rest", x.rest(3, LEAST), -17);
        x.lay(3, 3, LEAST);
        due("rest", x.rest(3, -1), 0);
        x.lay(3, 3, 17);
        due("rest", x.rest(3, -5), 2);
        due("rest", x.rest(3, 17), 0);
        due("rest no", x.rest(3, 0), NO);
        due("rest kind ahead of no", x.rest(1, 0), KIND);
        due("rest kind", x.rest(2, 1), KIND);
        due("rest nothing", x.rest(0, 0), NOTHING);
        due("rest bad", x.rest(-1, 0), BAD);
        due("rest bad", x.rest(5, 0), BAD);
    }

    private static void rows() {
        promise = 38;
        BurdenHouse x = new BurdenHouse();
        for (int i = 1; i <= 60; i++) {
            due("tell", x.tell(i), i);
        }
        due("tell full", x.tell(0), FULL);
        due("count", x.count(7), 60);
        promise = 39;
        due("check bad", x.check(0), BAD);
        due("none wait then", x.count(7), 0);
        x.tell(1);
        due("check bad", x.check(31), BAD);
        due("none wait then", x.count(7), 0);
        x.tell(1);
        due("check no", x.check(1), NO);
        due("none wait then", x.count(7), 0);
        x.bin(1, 9900, 999);
        x.rule(1, 0);
        x.rule(0, 999);
        x.turns(0, 11111);
        x.charge(0, 40);
        x.keep();
        // ORE: BULK 30, 6 in each; IRON 39; without gas 5 go in an hour: 39*5/30 = 6, 13, 19, 26, 32, 39
        int[] due = {6, 25, 13, 20, 19, 15, 26, 10, 32, 5, 39, 0, 39, 0};
        for (int hours = 1; hours <= 7; hours++) {
            tellAll(x, due, 2 * hours);
            due("check", x.check(hours), 0);
            due("none wait then", x.count(7), 0);
        }
        tellAll(x, due, 5);
        due("one is missing", x.check(3), 6);
        tellAll(x, due, 7);
        due("one too many", x.check(3), 7);
        due("none at all", x.check(1), 1);
        for (int at = 0; at < 6; at++) {
            for (int i = 0; i < 6; i++) {
                x.tell(i == at ? due[i] + 1 : due[i]);
            }
            due("one is not", x.check(3), 1 + at);
        }
        x.run(3);
        x.rule(1, 999);
        read(x, "gas 999");
        tellAll(x, due, 12);
        due("from the image on", x.check(6), 0);
        due("nothing changed", x.count(6), 3);
        for (int i = 0; i < 60; i++) {
            x.tell(i < 14 ? due[i] : due[12 + i % 2]);
        }
        due("30 hours", x.check(30), 0);
        promise = 42;
        due("count bad", x.count(-1), BAD);
        due("count bad", x.count(9), BAD);
        due("count bad", x.count(LEAST), BAD);
        BurdenHouse y = withHearth();
        y.choose(1);
        y.ladle(5);
        y.ladle(6);
        read(y, "gas 1");
        y.feed(0, 0, 0);
        y.tell(4);
        y.charge(2, 10);
        int layers = y.count(1);
        int bulk = 0;
        for (int i = 0; i < layers; i++) {
            bulk += y.layer(i, 3);
        }
        row("count", counts(y), 3, layers, bulk, 1, 1, 2, 4, 1, 12);
        promise = 39;
        BurdenHouse z = new BurdenHouse();
        for (int i = 0; i < 16; i++) {
            z.run(60);
        }
        z.run(39);
        z.bin(0, 0, 9);
        z.turns(0, 1);
        z.rule(0, 999);
        z.rule(1, 0);
        z.charge(0, 9);
        due("keep", z.keep(), 999);
        z.tell(0);
        z.tell(8);
        z.tell(0);
        z.tell(7);
        due("above 999, too", z.check(2), 0);
    }

    private static void tellAll(BurdenHouse x, int[] all, int many) {
        for (int i = 0; i < many; i++) {
            x.tell(all[i]);
        }
    }

    private static void images() {
        promise = 40;
        BurdenHouse x = withHearth();
        x.ladle(9);
        x.choose(0);
        x.choose(2);
        read(x, "gas 300");
        x.sheet(0, 0, 3);
        x.mark(0, 1, 5);
        x.lay(0, 3, 44);
        x.tell(1);
        x.feed(1, 2, 3);
        due("keep", x.keep(), 4);
        int[] hearth = hearth(x);
        int[] counts = counts(x);
        int layers = x.count(1);
        int[] top = layer(x, layers - 1);
        for (int again = 0; again < 2; again++) {
            x.run(5);
            x.bin(2, 0, 4);
            x.fill(0, 3);
            x.turns(1, 777);
            x.rule(0, 7);
            x.rule(1, 8);
            x.rule(2, 9);
            x.charge(3, 4);
            x.pour(20, 50);
            x.ladle(3);
            read(x, "draw 0 5");
            read(x, "gas 0");
            x.clear();
            x.choose(1);
            x.mark(0, 1, 6 + again);
            x.lay(0, 3, 55 + again);
            x.tell(2);
            x.feed(1, 2, 3);
            promise = 41;
            due("back", x.back(), 4);
            row("hearth", hearth(x), hearth);
            due("bins", x.count(0), counts[0]);
            due("layers", x.count(1), counts[1]);
            due("bulk", x.count(2), counts[2]);
            due("texts", x.count(3), 1);
            due("told", x.count(4), 2);
            due("ladles", x.count(5), 1);
            due("hour", x.count(6), 4);
            row("the layer on top", layer(x, layers - 1), top);
            due("tons", x.told(0, 3), 9899);
            due("turns", x.told(1, 4), 22222);
            due("slope", x.rule(0, 60), 60);
            due("gas", x.rule(1, 999), 999);
            due("away", x.rule(2, 60), 60);
            due("gas by its text", x.why(1, 0), 0);
            due("no draw", x.why(0, 0), NONE);
            due("ladle", x.backAt(0), 0);
            due("told are as they were", x.choose(2), NO);
            due("told are as they were", x.choose(0), NO);
            x.lay(1, 2, 0);
            due("sheets stay", x.item(1, 1), 6 + again);
            due("slots stay", x.rest(0, 100), 55 + again);
            due("numbers stay", x.count(7), 2 + again);
            due("the tape stays", x.count(8), 12);
        }
        x.run(2);
        promise = 40;
        due("keep anew", x.keep(), 6);
        x.run(2);
        due("back to the new one", x.back(), 6);
        promise = 41;
        BurdenHouse y = new BurdenHouse();
        due("back without an image", y.back(), NO);
        due("keep of a new object", y.keep(), 0);
        y.bin(0, 0, 0);
        due("back", y.back(), 0);
        due("no bins", y.count(0), 0);
    }
}
