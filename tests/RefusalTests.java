import java.util.ArrayList;
import java.util.List;

/** What the terms say of every refused call: which answer comes first, and that nothing changes. */
public final class RefusalTests {
    private static final int BAD = BurdenHouse.BAD, NO = BurdenHouse.NO, FULL = BurdenHouse.FULL, NONE = BurdenHouse.NONE,
        NOTHING = BurdenHouse.NOTHING, KIND = BurdenHouse.KIND, INDEX = BurdenHouse.INDEX, SIZE = BurdenHouse.SIZE;

    public static void main(String[] args) throws Exception {
        Sentences.run(RefusalTests.class, "Terms", args);
    }

    @Sentences.Says(at = "Terms", words = "All numbers are whole; / cuts towards 0.")
    static void cutsTowards0() {
        Sentences.gives(6, "9+(0-7)/2");
        Sentences.gives(6, "9+7/(0-2)");
        Sentences.gives(3, "(0-7)/(0-2)");
        Sentences.gives(9, "9+(0-1)/2");
        BurdenHouse x = new BurdenHouse();
        x.lay(0, 3, -17);
        Sentences.due("the rest, too", x.rest(0, 5), -2);
    }

    @Sentences.Says(at = "Terms", words = "NONE: there is none.")
    static void thereIsNone() {
        BurdenHouse x = Sentences.withStuffInRing(4);
        x.rule(1, 0);
        x.charge(0, 61);
        Sentences.read(x, "gas 0");
        Sentences.due("down", x.down(0), NONE);
        Sentences.due("why", x.why(2, 0), NONE);
        Sentences.due("burden", x.burden(1, 999, -1), NONE);
        Sentences.due("textTold", x.textTold(0, 1), NONE);
    }

    // ---- of several the one that stands first

    @Sentences.Says(at = "Terms", words = "A call that is refused answers one of BAD, NO, FULL, or a FINDING, of several the one that stands first with it")
    static void firstOfSeveral() {
        BurdenHouse x = full();
        Sentences.due("bin: BAD, FULL", x.bin(6, 0, 0), BAD);
        Sentences.due("bin: FULL", x.bin(0, 0, 0), FULL);
        Sentences.due("as: BAD, KIND", x.as(6, 1), BAD);
        Sentences.due("fill: BAD, FULL", x.fill(0, 10000), BAD);
        Sentences.due("charge: BAD, NO, FULL", x.charge(0, 1000), BAD);
        Sentences.due("charge: NO, FULL", x.charge(5, 999), NO);
        Sentences.due("charge: FULL", x.charge(5, 1), FULL);
        Sentences.due("run: BAD, FULL", x.run(61), BAD);
        Sentences.due("run: FULL", x.run(60), FULL);
        Sentences.due("cast: BAD, NO", x.cast(10000), BAD);
        Sentences.due("why: BAD, NONE", x.why(0, 6), BAD);
        Sentences.due("choose: NO, FULL", x.choose(1), NO);
        Sentences.due("choose: BAD, FULL", x.choose(6), BAD);
        Sentences.due("burden: BAD, NONE", x.burden(9999, 999, 3), BAD);
        Sentences.due("ladle: BAD, FULL", x.ladle(1000), BAD);
        Sentences.due("pour: BAD, NO", x.pour(9999, 10000), BAD);
        Sentences.due("check: BAD", x.check(0), BAD);
        x.trim(0);
        Sentences.due("text: its fault, FULL", Sentences.read(x, "gas h h"), -106);
        Sentences.due("text: FULL", Sentences.read(x, "gas h"), FULL);
        Sentences.due("check: BAD, NO", new BurdenHouse().check(31), BAD);
        Sentences.due("pour: BAD, NO", new BurdenHouse().pour(0, 0), BAD);
    }

    @Sentences.Says(at = "Terms", words = "of several the one that stands first with it")
    static void firstOfSeveralFindings() {
        BurdenHouse x = rich();
        Sentences.due("sheet: BAD, SIZE", x.sheet(0, 2, -1), BAD);
        Sentences.due("sheet: BAD, SIZE", x.sheet(4, 0, -1), BAD);
        Sentences.due("mark: BAD, ..", x.mark(4, 99, NONE), BAD);
        Sentences.due("mark: NOTHING, INDEX, KIND", x.mark(2, 99, NONE), NOTHING);
        Sentences.due("mark: NOTHING, .., BAD", x.mark(2, 0, 100000), NOTHING);
        Sentences.due("mark: INDEX, KIND", x.mark(0, 5, NONE), INDEX);
        Sentences.due("mark: INDEX, BAD", x.mark(1, 6, 100000), INDEX);
        Sentences.due("sound: BAD, NOTHING", x.sound(2, 1, 10000), BAD);
        Sentences.due("sound: BAD, NOTHING", x.sound(2, 2, 0), BAD);
        Sentences.due("tops: BAD, ..", x.tops(4, 99), BAD);
        Sentences.due("tops: NOTHING, INDEX", x.tops(2, 99), NOTHING);
        Sentences.due("copy: BAD, NOTHING, INDEX", x.copy(2, 99, 4, 99, -1), BAD);
        Sentences.due("copy: BAD, NOTHING, INDEX", x.copy(-1, 99, 2, 99, -1), BAD);
        Sentences.due("copy: NOTHING, INDEX", x.copy(0, 99, 2, 99, -1), NOTHING);
        Sentences.due("copy: NOTHING, INDEX", x.copy(2, 99, 1, 99, -1), NOTHING);
        Sentences.due("copy: KIND, INDEX", x.copy(0, 99, 1, 99, -1), KIND);
        Sentences.due("lay: BAD, NOTHING", x.lay(5, 2, 2), BAD);
        Sentences.due("ask: BAD, NOTHING", x.ask(4, 6), BAD);
        Sentences.due("ask: BAD, KIND", x.ask(2, 6), BAD);
        Sentences.due("item: NOTHING, ..", x.item(4, 99), NOTHING);
        Sentences.due("item: KIND, INDEX", x.item(0, 99), KIND);
        Sentences.due("rest: NOTHING, .., NO", x.rest(4, 0), NOTHING);
        Sentences.due("rest: KIND, NO", x.rest(0, 0), KIND);
    }

    // ---- and changes nothing

    private interface Call {
        int on(BurdenHouse x);
    }

    private interface Maker {
        BurdenHouse make();
    }

    /** One refused call: what it is, what is due, and how it is made. */
    private static final class Refused {
        final String what;
        final int due;
        final Call call;

        Refused(String what, int due, Call call) {
            this.what = what;
            this.due = due;
            this.call = call;
        }
    }

    /** An object with something of all: four bins, layers, texts, ladles, sheets (2 is MISSING), slots (4 holds nothing), an image. */
    private static BurdenHouse rich() {
        BurdenHouse x = new BurdenHouse();
        x.bin(1, 6012, 500);
        x.bin(2, 90, 300);
        x.bin(5, 8005, 80);
        x.bin(0, 5, 0);
        x.turns(1, 13579);
        x.rule(0, 50);
        x.rule(1, 300);
        x.rule(2, 30);
        x.charge(0, 200);
        x.charge(1, 60);
        x.charge(2, 20);
        x.ladle(10);
        x.ladle(20);
        x.run(9);
        Sentences.read(x, "gas 250+h");
        Sentences.read(x, "draw 0 20");
        Sentences.read(x, "late c");
        x.choose(0);
        x.choose(2);
        Sentences.due("there is iron", x.hearth(0) > 20 && x.hearth(0) < 9999 ? 1 : 0, 1);
        x.pour(5, 10);
        x.sheet(0, 0, 5);
        Sentences.marks(x, 0, 7, 6, 5, 8, 9);
        x.sheet(1, 1, 6);
        Sentences.marks(x, 1, 3, NONE, 2, 4, 4, -9);
        x.sheet(3, 1, 0);
        x.lay(0, 1, 0);
        x.lay(1, 2, 1);
        x.lay(2, 3, -17);
        x.keep();
        x.charge(1, 10);
        x.run(1);
        x.tell(1);
        x.tell(2);
        Sentences.type(x, "gas 7");
        return x;
    }

    /** An object of which nothing takes any more: six bins, 24 layers, 12 texts, hour 990, and so on. */
    private static BurdenHouse full() {
        BurdenHouse x = new BurdenHouse();
        Sentences.runTo(x, 990);
        for (int i = 0; i < 6; i++) {
            x.bin(i, 5001, 200);
            x.ladle(9);
        }
        for (int i = 0; i < 23; i++) {
            x.charge(0, 1);
        }
        x.turns(1, 9);
        x.charge(1, 150);
        for (int i = 0; i < 3; i++) {
            x.choose(i);
        }
        for (int i = 0; i < 12; i++) {
            Sentences.read(x, "gas 0");
        }
        x.sheet(0, 1, 24);
        x.keep();
        for (int i = 0; i < 60; i++) {
            x.tell(i);
        }
        for (int i = 0; i < 8; i++) {
            x.feed(0x20202020, 0x20202020, 0x20202020);
        }
        return x;
    }

    /** All that can be seen of an object, in one row: it is used up by this. */
    private static List<Integer> seen(BurdenHouse x) {
        List<Integer> all = new ArrayList<>();
        look(all, 9, x::count);
        seeHouse(all, x);
        seeSlotsAndSheets(all, x);
        look(all, 3, what -> x.rule(what, 999));
        all.add(x.check(3));
        all.add(x.text());
        look(all, 2, key -> x.why(key + 1, 0));
        all.add(x.back());
        look(all, 9, x::count);
        look(all, 4, x::hearth);
        look(all, 6, x::backAt);
        look(all, 3, what -> x.rule(what, 1));
        return all;
    }

    private static void look(List<Integer> all, int many, Sentences.Answer answer) {
        for (int i = 0; i < many; i++) {
            all.add(answer.of(i));
        }
    }

    private static void seeHouse(List<Integer> all, BurdenHouse x) {
        for (int bin = 0; bin < x.count(0); bin++) {
            int of = bin;
            look(all, 5, what -> x.told(of, what));
        }
        boolean few = x.count(1) < 9;
        for (int layer = 0; layer < x.count(1); layer++) {
            int of = layer;
            look(all, few ? 9 : 1, what -> x.layer(of, few ? what : 3));
        }
        look(all, 10, i -> x.ring(i / 2, 2 * (i % 2)));
        look(all, 4, x::hearth);
        look(all, x.count(3), text -> x.textTold(text, 0));
        look(all, 6, bin -> x.why(0, bin));
        look(all, 2, key -> x.why(key + 1, 0));
        look(all, 6, x::backAt);
        look(all, 4, i -> x.burden(20, 999, i - 1));
        look(all, x.count(0), x::choose);
    }

    private static void seeSlotsAndSheets(List<Integer> all, BurdenHouse x) {
        look(all, 5, slot -> x.ask(slot, 0));
        look(all, 5, slot -> x.rest(slot, 1000));
        look(all, 5, slot -> x.item(slot, 0));
        look(all, 7, place -> x.item(1, place));
        for (int sheet = 0; sheet < 4; sheet++) {
            all.add(x.lay(3, 2, sheet));
            look(all, 7, place -> x.item(3, place));
        }
    }

    /** Each refused call answers what is due, and the object is then as another one that was not called. */
    private static void changeNothing(Maker maker, Refused... calls) {
        List<Integer> due = seen(maker.make());
        for (Refused refused : calls) {
            BurdenHouse x = maker.make();
            Sentences.due(refused.what, refused.call.on(x), refused.due);
            List<Integer> got = seen(x);
            if (!got.equals(due)) {
                Sentences.fault(refused.what + " left " + got + ", due is " + due);
            }
        }
    }

    @Sentences.Says(at = "Terms", words = "and changes nothing")
    static void changesNothingOfHouse() {
        changeNothing(RefusalTests::rich,
            new Refused("bin", BAD, x -> x.bin(6, 0, 0)),
            new Refused("bin", BAD, x -> x.bin(0, 10000, 0)),
            new Refused("bin", BAD, x -> x.bin(0, 0, 10000)),
            new Refused("told", BAD, x -> x.told(9, 0)),
            new Refused("of", BAD, x -> x.of(0, 1000, 0)),
            new Refused("as", BAD, x -> x.as(0, 6)),
            new Refused("as", KIND, x -> x.as(0, 2)),
            new Refused("fill", BAD, x -> x.fill(0, 0)),
            new Refused("fill", BAD, x -> x.fill(4, 1)),
            new Refused("fill", FULL, x -> x.fill(0, 9999)),
            new Refused("turns", BAD, x -> x.turns(0, 0)),
            new Refused("turns", BAD, x -> x.turns(0, 100000)),
            new Refused("rule", BAD, x -> x.rule(0, 0)),
            new Refused("rule", BAD, x -> x.rule(1, 1000)),
            new Refused("rule", BAD, x -> x.rule(2, -1)),
            new Refused("rule", BAD, x -> x.rule(3, 5)),
            new Refused("empty", BAD, x -> x.empty(0, 0)),
            new Refused("charge", BAD, x -> x.charge(0, 0)),
            new Refused("charge", BAD, x -> x.charge(4, 1)),
            new Refused("charge", NO, x -> x.charge(2, 61)),
            new Refused("layer", BAD, x -> x.layer(9, 0)),
            new Refused("ring", BAD, x -> x.ring(5, 0)),
            new Refused("run", BAD, x -> x.run(0)),
            new Refused("run", BAD, x -> x.run(61)),
            new Refused("hearth", BAD, x -> x.hearth(4)),
            new Refused("cast", BAD, x -> x.cast(0)),
            new Refused("cast", NO, x -> x.cast(9999)),
            new Refused("down", BAD, x -> x.down(9)));
    }

    @Sentences.Says(at = "Terms", words = "and changes nothing")
    static void changesNothingOfPrograms() {
        changeNothing(RefusalTests::rich,
            new Refused("trim", BAD, x -> x.trim(-1)),
            new Refused("trim", BAD, x -> x.trim(6)),
            new Refused("textTold", BAD, x -> x.textTold(9, 0)),
            new Refused("why", BAD, x -> x.why(3, 0)),
            new Refused("why", NONE, x -> x.why(0, 1)),
            new Refused("choose", BAD, x -> x.choose(4)),
            new Refused("choose", NO, x -> x.choose(0)),
            new Refused("burden", BAD, x -> x.burden(-1, 999, -1)),
            new Refused("burden", NONE, x -> x.burden(9999, 999, -1)),
            new Refused("ladle", BAD, x -> x.ladle(0)),
            new Refused("backAt", BAD, x -> x.backAt(2)),
            new Refused("pour", BAD, x -> x.pour(0, 0)),
            new Refused("pour", BAD, x -> x.pour(1, 10000)),
            new Refused("pour", NO, x -> x.pour(9999, 0)),
            new Refused("count", BAD, x -> x.count(9)));
    }

    @Sentences.Says(at = "Terms", words = "and changes nothing")
    static void changesNothingOfSheets() {
        changeNothing(RefusalTests::rich,
            new Refused("sheet", BAD, x -> x.sheet(0, 2, 1)),
            new Refused("sheet", BAD, x -> x.sheet(0, 0, 25)),
            new Refused("sheet", SIZE, x -> x.sheet(0, 0, -1)),
            new Refused("mark", BAD, x -> x.mark(4, 0, 1)),
            new Refused("mark", NOTHING, x -> x.mark(2, 0, 1)),
            new Refused("mark", INDEX, x -> x.mark(0, 5, 1)),
            new Refused("mark", KIND, x -> x.mark(0, 0, NONE)),
            new Refused("mark", BAD, x -> x.mark(1, 0, 100000)),
            new Refused("sound", BAD, x -> x.sound(0, 2, 0)),
            new Refused("sound", NOTHING, x -> x.sound(2, 0, 0)),
            new Refused("tops", BAD, x -> x.tops(4, 0)),
            new Refused("tops", NOTHING, x -> x.tops(2, 0)),
            new Refused("tops", INDEX, x -> x.tops(0, 5)),
            new Refused("copy", BAD, x -> x.copy(4, 0, 0, 0, 1)),
            new Refused("copy", NOTHING, x -> x.copy(2, 0, 0, 0, 0)),
            new Refused("copy", KIND, x -> x.copy(0, 0, 1, 0, 1)),
            new Refused("copy", INDEX, x -> x.copy(0, 0, 0, 1, 5)),
            new Refused("copy", INDEX, x -> x.copy(0, 1, 0, 0, 5)),
            new Refused("lay", BAD, x -> x.lay(5, 0, 0)),
            new Refused("lay", BAD, x -> x.lay(0, 4, 0)),
            new Refused("lay", BAD, x -> x.lay(1, 1, 4)),
            new Refused("lay", BAD, x -> x.lay(2, 2, 4)),
            new Refused("lay", NOTHING, x -> x.lay(2, 2, 2)),
            new Refused("ask", BAD, x -> x.ask(0, 6)),
            new Refused("ask", NOTHING, x -> x.ask(4, 0)),
            new Refused("ask", KIND, x -> x.ask(1, 0)),
            new Refused("item", BAD, x -> x.item(5, 0)),
            new Refused("item", NOTHING, x -> x.item(4, 0)),
            new Refused("item", KIND, x -> x.item(0, 0)),
            new Refused("item", INDEX, x -> x.item(1, 6)),
            new Refused("item", KIND, x -> x.item(1, 1)),
            new Refused("rest", BAD, x -> x.rest(5, 1)),
            new Refused("rest", NOTHING, x -> x.rest(4, 1)),
            new Refused("rest", KIND, x -> x.rest(0, 1)),
            new Refused("rest", NO, x -> x.rest(2, 0)));
    }

    @Sentences.Says(at = "Terms", words = "and changes nothing")
    static void changesNothingOfFullOnes() {
        changeNothing(RefusalTests::full,
            new Refused("bin", FULL, x -> x.bin(0, 0, 0)),
            new Refused("charge", FULL, x -> x.charge(5, 1)),
            new Refused("round", 0, BurdenHouse::round),
            new Refused("run", FULL, x -> x.run(10)),
            new Refused("down", NONE, x -> x.down(23)),
            new Refused("feed", FULL, x -> x.feed(1, 2, 3)),
            new Refused("choose", FULL, x -> x.choose(3)),
            new Refused("ladle", FULL, x -> x.ladle(1)),
            new Refused("tell", FULL, x -> x.tell(1)));
        changeNothing(RefusalTests::withoutImage,
            new Refused("back", NO, BurdenHouse::back),
            new Refused("pour", NO, x -> x.pour(1, 0)));
    }

    /** Bins, layers and iron, but no image and no ladles. */
    private static BurdenHouse withoutImage() {
        BurdenHouse x = Sentences.withHearth();
        x.charge(0, 40);
        x.tell(0);
        return x;
    }

    @Sentences.Says(at = "Terms", words = "(but the tape and the numbers that wait, where told)")
    static void onlyTapeAndNumbers() {
        BurdenHouse trimmed = rich();
        trimmed.trim(0);
        BurdenHouse faulty = rich();
        Sentences.type(faulty, "gas h h");
        Sentences.due("a fault", faulty.text(), -106);
        alike("a fault uses up the tape alone", seen(faulty), seen(trimmed));
        BurdenHouse fullTrimmed = full();
        fullTrimmed.trim(0);
        BurdenHouse fullOne = full();
        Sentences.type(fullOne, "gas 999");
        Sentences.due("full", fullOne.text(), FULL);
        alike("no room uses up the tape alone", seen(fullOne), seen(fullTrimmed));
        BurdenHouse checked = rich();
        Sentences.due("hours bad", checked.check(31), BAD);
        BurdenHouse checkedRight = rich();
        Sentences.due("a right number of hours", checkedRight.check(30), 1);
        alike("a bad check uses up the numbers alone", seen(checked), seen(checkedRight));
        BurdenHouse noImage = withoutImage();
        Sentences.due("no image", noImage.check(1), NO);
        BurdenHouse noNumbers = Sentences.withHearth();
        noNumbers.charge(0, 40);
        alike("a check without an image uses up the numbers alone", seen(noImage), seen(noNumbers));
    }

    private static void alike(String what, List<Integer> got, List<Integer> due) {
        if (!got.equals(due)) {
            Sentences.fault(what + ": " + got + ", due is " + due);
        }
    }
}
