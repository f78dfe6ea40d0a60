import java.util.ArrayList;
import java.util.Arrays;
import java.util.Collections;
import java.util.List;
import java.util.Random;

/** Random runs of calls, each answer held against a second, plain working out of the document (kept apart on purpose). */
public final class ModelTests {
    private static final int RUNS = 3000;
    /** An object is used for at most 512 calls; the last step may take 62 of them. */
    private static final int CALLS = 512 - 62;
    private static int wrong = 0;

    public static void main(String[] args) {
        int[] refusals = new int[9];
        for (int run = 0; run < RUNS && wrong < 20; run++) {
            playRun(run, refusals);
        }
        for (int i = 0; i < refusals.length; i++) {
            if (refusals[i] == 0) {
                wrong++;
                System.out.println("no random run reached the refusal number " + i);
            }
        }
        System.out.println(wrong == 0 ? "all answers are as due" : wrong + " answers are not as due");
        if (wrong != 0) {
            System.exit(1);
        }
    }

    private static void playRun(int run, int[] refusals) {
        Caller caller = new Caller(new Random(7919L * run + 13));
        StringBuilder log = new StringBuilder();
        while (caller.made <= CALLS) {
            caller.next();
            log.append(caller.call).append(" = ").append(caller.got).append('\n');
            if (caller.got != caller.due) {
                wrong++;
                System.out.println("run " + run + ":\n" + log + "due is " + caller.due);
                return;
            }
            int[] finds = {BurdenHouse.BAD, BurdenHouse.NO, BurdenHouse.FULL, BurdenHouse.NONE, BurdenHouse.NOTHING,
                BurdenHouse.KIND, BurdenHouse.INDEX, BurdenHouse.SIZE};
            for (int k = 0; k < finds.length; k++) {
                if (caller.got == finds[k]) {
                    refusals[k]++;
                }
            }
            if (caller.got <= -100 && caller.got >= -196) {
                refusals[8]++;
            }
        }
    }

    /** Picks calls by chance and makes each on both. */
    private static final class Caller {
        final Random random;
        final BurdenHouse x = new BurdenHouse();
        final Model m = new Model();
        final int daring;
        /** How many calls were made on each. */
        int made = 0;
        String call;
        int got;
        int due;

        Caller(Random random) {
            this.random = random;
            daring = random.nextInt(4) == 0 ? 4 : 25;
        }

        /** A number within two ends mostly, else near an end or far off. */
        int near(int least, int greatest) {
            if (random.nextInt(daring) != 0) {
                return least + random.nextInt(greatest - least + 1);
            }
            int[] odd = {least - 1, greatest + 1, least, greatest, -1, 0, Integer.MIN_VALUE, Integer.MAX_VALUE,
                BurdenHouse.NONE, random.nextInt(), 1000, 10000};
            return odd[random.nextInt(odd.length)];
        }

        void set(String name, int got, int due, int... arguments) {
            made++;
            this.call = name + Arrays.toString(arguments);
            this.got = got;
            this.due = due;
        }

        void next() {
            int pick = random.nextInt(100);
            if (pick < 20) {
                binCalls(random.nextInt(9));
            } else if (pick < 50) {
                furnaceCalls(random.nextInt(14));
            } else if (pick < 65) {
                textCalls(random.nextInt(9));
            } else if (pick < 76) {
                burdenCalls(random.nextInt(8));
            } else if (pick < 90) {
                sheetCalls(random.nextInt(11));
            } else {
                rowCalls(random.nextInt(8));
            }
        }

        void binCalls(int which) {
            int b = near(0, 5), n, w;
            switch (which) {
                case 0: case 8: { int k = near(0, 5), o = near(0, 9999); n = near(0, 9999); set("bin", x.bin(k, o, n), m.bin(k, o, n), k, o, n); break; }
                case 1: w = near(0, 5); set("told", x.told(b, w), m.told(b, w), b, w); break;
                case 2: n = near(0, 999); w = near(0, 3); set("of", x.of(b, n, w), m.of(b, n, w), b, n, w); break;
                case 3: w = near(0, 5); set("as", x.as(b, w), m.as(b, w), b, w); break;
                case 4: n = near(1, random.nextBoolean() ? 999 : 9999); set("fill", x.fill(b, n), m.fill(b, n), b, n); break;
                case 5: n = random.nextInt(4) == 0 ? new int[] {9, 90000, 1, 10000, 99999, 100000, 900, 12345}[random.nextInt(8)] : near(1, 99999);
                    set("turns", x.turns(b, n), m.turns(b, n), b, n); break;
                case 6: w = near(0, 2); n = w == 0 && random.nextBoolean() ? near(1, 60) : near(0, 999); set("rule", x.rule(w, n), m.rule(w, n), w, n); break;
                default: n = near(1, 999); set("empty", x.empty(b, n), m.empty(b, n), b, n); break;
            }
        }

        void furnaceCalls(int which) {
            int b = near(0, 5), n, w;
            switch (which) {
                case 0: case 1: case 2: case 3: n = near(1, random.nextBoolean() ? 60 : 999); set("charge", x.charge(b, n), m.charge(b, n), b, n); break;
                case 4: case 5: n = near(0, Math.max(0, Math.min(23, m.w.layers.size() - 1))); w = near(0, 8); set("layer", x.layer(n, w), m.layer(n, w), n, w); break;
                case 6: case 7: n = near(0, 4); w = near(0, 3); set("ring", x.ring(n, w), m.ring(n, w), n, w); break;
                case 8: n = near(1, random.nextInt(6) == 0 ? 60 : 3); set("run", x.run(n), m.run(n), n); break;
                case 9: set("round", x.round(), m.round()); break;
                case 10: case 11: w = near(0, 3); set("hearth", x.hearth(w), m.hearth(w), w); break;
                case 12: n = near(1, random.nextInt(5) == 0 ? 9999 : 30); set("cast", x.cast(n), m.cast(n), n); break;
                default: n = near(0, Math.max(0, m.w.layers.size() - 1)); set("down", x.down(n), m.down(n), n); break;
            }
        }

        void textCalls(int which) {
            switch (which) {
                case 0: { int k = near(0, 2), b = near(0, 5); set("why", x.why(k, b), m.why(k, b), k, b); break; }
                case 1: { int t = near(0, 11), w = near(0, 2); set("textTold", x.textTold(t, w), m.textTold(t, w), t, w); break; }
                case 2: { int n = near(0, 96); set("trim", x.trim(n), m.trim(n), n); break; }
                case 3: { int a = random.nextInt(), b = random.nextInt(), c = random.nextInt(); set("feed", x.feed(a, b, c), m.feed(a, b, c), a, b, c); break; }
                default: wholeText(new TextMaker(random).text()); break;
            }
        }

        /** Brings a text to both tapes by the calls themselves, and reads it. */
        void wholeText(String text) {
            x.trim(0);
            m.trim(0);
            for (int i = 0; i < text.length(); i += 12) {
                int[] three = new int[3];
                for (int j = 0; j < 12; j++) {
                    int b = i + j < text.length() ? text.charAt(i + j) : 0;
                    three[j / 4] |= b << (24 - 8 * (j % 4));
                }
                made++;
                x.feed(three[0], three[1], three[2]);
                m.feed(three[0], three[1], three[2]);
            }
            made += 2;
            x.trim(text.length());
            m.trim(text.length());
            set("text \"" + text + "\"", x.text(), m.text());
        }

        void burdenCalls(int which) {
            int b = near(0, 5), n, w;
            switch (which) {
                case 0: case 1: set("choose", x.choose(b), m.choose(b), b); break;
                case 2: if (random.nextInt(4) == 0) { set("clear", x.clear(), m.clear()); } else { set("count", x.count(4), m.count(4), 4); } break;
                case 3: case 4: { n = near(0, random.nextInt(4) == 0 ? 9999 : 150); w = near(-1, Math.max(-1, m.w.told.size() - 1));
                    int e = random.nextBoolean() ? random.nextInt(100) * 1000 + 100 + random.nextInt(900) : near(0, 999999);
                    set("burden", x.burden(n, e, w), m.burden(n, e, w), n, e, w); break; }
                case 5: n = near(1, random.nextBoolean() ? 12 : 999); set("ladle", x.ladle(n), m.ladle(n), n); break;
                case 6: n = near(0, 5); set("backAt", x.backAt(n), m.backAt(n), n); break;
                default: n = near(1, random.nextInt(3) == 0 ? (int) Math.max(1, Math.min(9999, m.w.iron)) : 40); w = near(0, random.nextBoolean() ? 50 : 9999);
                    set("pour", x.pour(n, w), m.pour(n, w), n, w); break;
            }
        }

        void sheetCalls(int which) {
            int s = near(0, 3), n, w;
            switch (which) {
                case 0: w = near(-1, 1); n = near(0, 24); set("sheet", x.sheet(s, w, n), m.sheet(s, w, n), s, w, n); break;
                case 1: case 2: n = near(0, 23); w = random.nextInt(5) == 0 ? BurdenHouse.NONE : near(random.nextBoolean() ? 0 : -99999, random.nextBoolean() ? 6 : 99999);
                    set("mark", x.mark(s, n, w), m.mark(s, n, w), s, n, w); break;
                case 3: case 4: w = near(0, 1); n = near(0, random.nextBoolean() ? 5 : 9999); set("sound", x.sound(s, w, n), m.sound(s, w, n), s, w, n); break;
                case 5: n = near(0, 23); set("tops", x.tops(s, n), m.tops(s, n), s, n); break;
                case 6: { int p = near(0, 24), t = near(0, 3), a = near(0, 24); n = near(0, random.nextBoolean() ? 4 : 24); set("copy", x.copy(s, p, t, a, n), m.copy(s, p, t, a, n), s, p, t, a, n); break; }
                case 7: { int l = near(0, 4), t = near(0, 3), k = t == 3 ? random.nextInt() >> random.nextInt(32) : near(0, t == 1 ? 5 : 3); set("lay", x.lay(l, t, k), m.lay(l, t, k), l, t, k); break; }
                case 8: n = near(0, 4); w = near(0, 5); set("ask", x.ask(n, w), m.ask(n, w), n, w); break;
                case 9: n = near(0, 4); w = near(0, 23); set("item", x.item(n, w), m.item(n, w), n, w); break;
                default: n = near(0, 4); w = near(-30, 30); set("rest", x.rest(n, w), m.rest(n, w), n, w); break;
            }
        }

        void rowCalls(int which) {
            switch (which) {
                case 0: { int v = near(-3, 3); set("tell", x.tell(v), m.tell(v), v); break; }
                case 1: { int n = near(1, 30); set("check", x.check(n), m.check(n), n); break; }
                case 2: case 3: { int n = 1 + random.nextInt(30); tellHours(n); set("check", x.check(n), m.check(n), n); break; }
                case 4: set("keep", x.keep(), m.keep()); break;
                case 5: if (random.nextInt(3) == 0) { set("back", x.back(), m.back()); } else { set("count", x.count(6), m.count(6), 6); } break;
                default: { int w = near(0, 8); set("count", x.count(w), m.count(w), w); break; }
            }
        }

        /** Tells the hours as they are due, with a fault in some of them. */
        void tellHours(int n) {
            List<Integer> due = m.hoursTold(n);
            int fault = random.nextInt(4);
            if (fault == 0 && !due.isEmpty()) {
                int at = random.nextInt(due.size());
                due.set(at, due.get(at) + 1);
            } else if (fault == 1 && !due.isEmpty()) {
                due.remove(due.size() - 1);
            } else if (fault == 2) {
                due.add(0);
            }
            for (int v : due) {
                made++;
                x.tell(v);
                m.tell(v);
            }
        }
    }

    /** Texts that are right mostly, some with a byte changed, left out or put in. */
    private static final class TextMaker {
        final Random random;
        final StringBuilder made = new StringBuilder();
        String names;

        TextMaker(Random random) {
            this.random = random;
        }

        String text() {
            int key = random.nextInt(5);
            blanks();
            if (key < 3) {
                made.append("draw ");
                blanks();
                made.append(random.nextInt(20) == 0 ? "00" : "").append(random.nextInt(random.nextInt(20) == 0 ? 9 : 6)).append(' ');
            } else {
                made.append(key == 3 ? "gas " : "late ");
            }
            names = key < 3 ? "htbs" : key == 3 ? "hti" : "hc";
            if (random.nextInt(25) == 0) {
                deep();
            } else {
                or(random.nextInt(3));
            }
            blanks();
            if (random.nextInt(4) == 0) {
                spoil();
            }
            return made.length() > 96 ? made.substring(0, 96) : made.toString();
        }

        void deep() {
            int many = 6 + random.nextInt(4);
            boolean mixed = random.nextBoolean();
            int open = 0;
            for (int i = 0; i < many; i++) {
                if (mixed && random.nextBoolean()) {
                    made.append('!');
                }
                made.append('(');
                open++;
            }
            for (int i = random.nextInt(11); i > 0; i--) {
                made.append('!');
            }
            made.append('h');
            for (int i = 0; i < open; i++) {
                made.append(")");
                if (random.nextInt(3) == 0) {
                    made.append("-!!1");
                }
            }
        }

        void blanks() {
            while (random.nextInt(5) == 0) {
                made.append(' ');
            }
        }

        void sign(String of) {
            blanks();
            made.append(of.charAt(random.nextInt(of.length())));
            blanks();
        }

        void or(int depth) {
            and(depth);
            while (random.nextInt(6) == 0) {
                sign("|");
                and(depth);
            }
        }

        void and(int depth) {
            test(depth);
            while (random.nextInt(6) == 0) {
                sign("&");
                test(depth);
            }
        }

        void test(int depth) {
            sum(depth);
            if (random.nextInt(4) == 0) {
                sign("<=>");
                sum(depth);
            }
        }

        void sum(int depth) {
            term(depth);
            while (random.nextInt(3) == 0) {
                sign("+-");
                term(depth);
            }
        }

        void term(int depth) {
            piece(depth);
            while (random.nextInt(3) == 0) {
                sign("*/");
                piece(depth);
            }
        }

        void piece(int depth) {
            blanks();
            int pick = random.nextInt(8);
            if (pick == 0) {
                made.append('!');
                piece(depth);
            } else if (pick == 1 && depth > 0) {
                made.append('(');
                or(depth - 1);
                blanks();
                made.append(')');
            } else if (pick < 5) {
                made.append(names.charAt(random.nextInt(names.length())));
            } else {
                made.append(random.nextInt(3) == 0 ? random.nextInt(10000) : random.nextInt(12));
            }
        }

        void spoil() {
            String odd = "()!|&<=>+-*/ htbsic09dgA\u00e9\t";
            int at = random.nextInt(made.length() + 1);
            int how = random.nextInt(3);
            if (how == 0 && at < made.length()) {
                made.deleteCharAt(at);
            } else if (how == 1 && at < made.length()) {
                made.setCharAt(at, odd.charAt(random.nextInt(odd.length())));
            } else {
                made.insert(at, odd.charAt(random.nextInt(odd.length())));
            }
        }
    }

    private static final class Fault extends RuntimeException {
        private static final long serialVersionUID = 1L;
        final int place;

        Fault(int place) {
            this.place = place;
        }
    }

    /** Reads a text by the grammar, rule by rule, into a tree. */
    private static final class Reader {
        final String text;
        final List<String> words = new ArrayList<>();
        final List<Integer> places = new ArrayList<>();
        int now = 0;
        int brackets = 0;
        int nots = 0;
        int key;
        int bin = -1;
        int pieces = 0;
        Node tree;

        Reader(String text) {
            this.text = text;
            int i = 0;
            while (i < text.length()) {
                int from = i;
                if (text.charAt(i) == ' ') {
                    i++;
                    continue;
                }
                int sort = sort(text.charAt(i));
                i++;
                while (sort != 2 && i < text.length() && sort(text.charAt(i)) == sort) {
                    i++;
                }
                words.add(text.substring(from, i));
                places.add(from);
            }
            String first = word();
            key = Arrays.asList("draw", "gas", "late").indexOf(first);
            if (key < 0) {
                throw new Fault(place());
            }
            now++;
            if (key == 0) {
                bin = number();
                if (bin > 5) {
                    now--;
                    throw new Fault(place());
                }
            }
            tree = level(0);
            if (now < words.size()) {
                throw new Fault(place());
            }
        }

        static int sort(char c) {
            return c >= 'a' && c <= 'z' ? 0 : c >= '0' && c <= '9' ? 1 : 2;
        }

        String word() {
            return now < words.size() ? words.get(now) : "";
        }

        int place() {
            return now < words.size() ? places.get(now) : text.length();
        }

        /** A word must not touch a word ahead of it. */
        void apart() {
            if (now > 0 && sort(words.get(now - 1).charAt(0)) != 2 && places.get(now - 1) + words.get(now - 1).length() == places.get(now)) {
                throw new Fault(place());
            }
        }

        int number() {
            if (word().isEmpty() || sort(word().charAt(0)) != 1 || word().length() > 4) {
                throw new Fault(place());
            }
            apart();
            now++;
            return Integer.parseInt(words.get(now - 1));
        }

        Node level(int level) {
            String[] signs = {"|", "&", "<=>", "+-", "*/"};
            if (level == signs.length) {
                return piece();
            }
            Node left = level(level + 1);
            while (!word().isEmpty() && signs[level].contains(word())) {
                char sign = word().charAt(0);
                now++;
                left = new Node(sign, 0, left, level(level + 1));
                if (level == 2) {
                    break;
                }
            }
            return left;
        }

        Node piece() {
            String word = word();
            if (word.equals("!")) {
                if (++nots > 8) {
                    throw new Fault(place());
                }
                now++;
                Node inner = piece();
                nots--;
                return new Node('!', 0, inner, null);
            }
            if (word.equals("(")) {
                if (++brackets > 8) {
                    throw new Fault(place());
                }
                now++;
                Node inner = level(0);
                if (!word().equals(")")) {
                    throw new Fault(place());
                }
                now++;
                brackets--;
                return inner;
            }
            if (word.length() == 1 && new String[] {"htbs", "hti", "hc"}[key].contains(word)) {
                apart();
                now++;
                pieces++;
                return new Node(word.charAt(0), 0, null, null);
            }
            int number = number();
            pieces++;
            return new Node('0', number, null, null);
        }
    }

    private static final class Node {
        final char sign;
        final int number;
        final Node left;
        final Node right;

        Node(char sign, int number, Node left, Node right) {
            this.sign = sign;
            this.number = number;
            this.left = left;
            this.right = right;
        }

        int worth(int[] letters) {
            if (sign == '0') {
                return number;
            }
            if (sign >= 'a' && sign <= 'z') {
                return letters[sign];
            }
            int a = left.worth(letters);
            if (sign == '!') {
                return a == 0 ? 1 : 0;
            }
            int b = right.worth(letters);
            switch (sign) {
                case '|': return a != 0 || b != 0 ? 1 : 0;
                case '&': return a != 0 && b != 0 ? 1 : 0;
                case '<': return a < b ? 1 : 0;
                case '=': return a == b ? 1 : 0;
                case '>': return a > b ? 1 : 0;
                case '+': return a + b;
                case '-': return a - b;
                case '*': return a * b;
                case '/': return b == 0 ? 0 : a / b;
                default: throw new IllegalStateException("sign " + sign);
            }
        }
    }

    /** A kind of stuff, by the document's own way of telling them: each as the one above it, but for what is named. */
    private static class Stuff {
        final long share;
        Stuff(long share) { this.share = share; }
        long bulk(long t) { return t; }
        long iron(long t) { return 0; }
        long acid(long t) { return t / 10; }
        long lime(long t) { return 0; }
        long holds() { return 2; }

        static Stuff of(int kind, int share) {
            switch (kind) {
                case 0: return new Stuff(share);
                case 1: return new Ore(share);
                case 2: return new Coke(share);
                case 3: return new Sinter(share);
                case 4: return new Small(share);
                default: return new Flux(share);
            }
        }

        static Class<?> kind(int kind) {
            return of(kind, 0).getClass();
        }
    }

    private static class Ore extends Stuff {
        Ore(long share) { super(share); }
        @Override long bulk(long t) { return super.bulk(t) - t / 4; }
        @Override long iron(long t) { return Math.max(0, t * share / 100); }
        @Override long acid(long t) { return super.acid(t) + (t - iron(t)) / 4; }
        @Override long holds() { return super.holds() + 1; }
    }

    private static final class Sinter extends Ore {
        Sinter(long share) { super(share); }
        @Override long iron(long t) { return Math.max(0, super.iron(t) - t / 20); }
        @Override long lime(long t) { return t / 8; }
        @Override long holds() { return super.holds() - 2; }
    }

    private static class Coke extends Stuff {
        Coke(long share) { super(share); }
        @Override long bulk(long t) { return 2 * super.bulk(t); }
        @Override long holds() { return 1; }
    }

    private static final class Small extends Coke {
        Small(long share) { super(share); }
        @Override long bulk(long t) { return super.bulk(t) - t; }
        @Override long holds() { return super.holds() + 4; }
    }

    private static final class Flux extends Stuff {
        Flux(long share) { super(share); }
        @Override long acid(long t) { return 0; }
        @Override long lime(long t) { return t * share / 100; }
    }

    private static final class Bin {
        int kind, share, price, tons, turns = 22222;
        Stuff stuff;

        Bin copy() {
            Bin c = new Bin();
            c.kind = kind;
            c.share = share;
            c.price = price;
            c.tons = tons;
            c.turns = turns;
            c.stuff = stuff;
            return c;
        }
    }

    private static final class Lay {
        int bin, hour, tons;
        long whole;
        Stuff stuff;
        long[] bulk = new long[5];

        Lay copy() {
            Lay c = new Lay();
            c.bin = bin;
            c.hour = hour;
            c.tons = tons;
            c.whole = whole;
            c.stuff = stuff;
            c.bulk = bulk.clone();
            return c;
        }

        long left() {
            return Arrays.stream(bulk).sum();
        }
    }

    private static final class World {
        List<Bin> bins = new ArrayList<>();
        List<Lay> layers = new ArrayList<>();
        List<Reader> texts = new ArrayList<>();
        List<Integer> told = new ArrayList<>();
        List<long[]> ladles = new ArrayList<>();
        int[] rules = {60, 100, 60};
        int hour = 0;
        long iron = 0, acid = 0, lime = 0;

        World copy() {
            World c = new World();
            for (Bin b : bins) { c.bins.add(b.copy()); }
            for (Lay l : layers) { c.layers.add(l.copy()); }
            c.texts.addAll(texts);
            c.told.addAll(told);
            for (long[] l : ladles) { c.ladles.add(l.clone()); }
            c.rules = rules.clone();
            c.hour = hour;
            c.iron = iron;
            c.acid = acid;
            c.lime = lime;
            return c;
        }

        static final long[] AREA = {1, 3, 5, 7, 9};

        long inRing(int r) {
            long sum = 0;
            for (Lay l : layers) { sum += l.bulk[r]; }
            return sum;
        }

        long top(int r) { return inRing(r) * 100 / AREA[r]; }

        long greatestTop() {
            long top = 0;
            for (int r = 0; r < 5; r++) { top = Math.max(top, top(r)); }
            return top;
        }

        long all() {
            long sum = 0;
            for (Lay l : layers) { sum += l.left(); }
            return sum;
        }

        long basic() { return acid == 0 ? 0 : 100 * lime / acid; }

        long resistance(int r) {
            long sum = 1;
            for (Lay l : layers) { sum += l.bulk[r] * l.stuff.holds(); }
            return sum;
        }

        static long[] part(long whole, long[] weights) {
            long sum = Arrays.stream(weights).sum();
            long[] parts = new long[5];
            if (sum == 0) { return parts; }
            List<Integer> order = new ArrayList<>(Arrays.asList(0, 1, 2, 3, 4));
            long left = whole;
            for (int r = 0; r < 5; r++) {
                parts[r] = whole * weights[r] / sum;
                left -= parts[r];
            }
            order.sort((a, b) -> Long.compare(whole * weights[b] % sum, whole * weights[a] % sum));
            for (int i = 0; i < left; i++) { parts[order.get(i)]++; }
            return parts;
        }

        int text(int key, int bin) {
            for (int i = texts.size() - 1; i >= 0; i--) {
                if (texts.get(i).key == key && (key != 0 || texts.get(i).bin == bin)) { return i; }
            }
            return -1;
        }

        static int held(int v) { return v < 0 ? 0 : v > 999 ? 999 : v; }

        long gas() {
            int text = text(1, -1);
            if (text < 0) { return rules[1]; }
            int[] letters = new int[128];
            letters['h'] = hour;
            letters['t'] = (int) greatestTop();
            letters['i'] = (int) iron;
            return held(texts.get(text).tree.worth(letters));
        }

        long[] gasParts() {
            long[] weights = new long[5];
            for (int r = 0; r < 5; r++) { weights[r] = AREA[r] * 100000 / resistance(r); }
            return part(gas(), weights);
        }

        void charge(int bin, int t) {
            Bin b = bins.get(bin);
            b.tons -= t;
            Lay l = new Lay();
            l.bin = bin;
            l.hour = hour;
            l.tons = t;
            l.stuff = b.stuff;
            l.whole = b.stuff.bulk(t);
            String digits = String.format("%05d", b.turns);
            long[] weights = new long[5];
            for (int r = 0; r < 5; r++) { weights[r] = digits.charAt(r) - '0'; }
            l.bulk = part(l.whole, weights);
            layers.add(l);
            for (int i = 0; i < 400; i++) {
                if (!slide(l)) { break; }
            }
        }

        boolean slide(Lay l) {
            for (int r = 0; r < 4; r++) {
                long a = top(r), b = top(r + 1);
                if (a > b + rules[0] && l.bulk[r] > 0) {
                    l.bulk[r]--;
                    l.bulk[r + 1]++;
                    return true;
                }
                if (b > a + rules[0] && l.bulk[r + 1] > 0) {
                    l.bulk[r + 1]--;
                    l.bulk[r]++;
                    return true;
                }
            }
            return false;
        }

        void pass() {
            long[] parts = gasParts();
            for (int r = 0; r < 5; r++) {
                long eaten = parts[r] / 4 + 1;
                for (Lay l : layers) {
                    long goes = Math.min(eaten, l.bulk[r]);
                    long before = l.whole - l.left();
                    l.bulk[r] -= goes;
                    eaten -= goes;
                    long after = l.whole - l.left();
                    iron += l.stuff.iron(l.tons) * after / l.whole - l.stuff.iron(l.tons) * before / l.whole;
                    acid += l.stuff.acid(l.tons) * after / l.whole - l.stuff.acid(l.tons) * before / l.whole;
                    lime += l.stuff.lime(l.tons) * after / l.whole - l.stuff.lime(l.tons) * before / l.whole;
                }
            }
            layers.removeIf(l -> l.left() == 0);
            hour++;
        }

        void cast(int n) {
            acid -= acid * n / iron;
            lime -= lime * n / iron;
            iron -= n;
        }
    }

    private static final class Row {
        final int sort;
        final List<Integer> places;

        Row(int sort, List<Integer> places) {
            this.sort = sort;
            this.places = places;
        }
    }

    private static final class Model {
        static final int BAD = BurdenHouse.BAD, NO = BurdenHouse.NO, FULL = BurdenHouse.FULL, NONE = BurdenHouse.NONE,
            NOTHING = BurdenHouse.NOTHING, KIND = BurdenHouse.KIND, INDEX = BurdenHouse.INDEX, SIZE = BurdenHouse.SIZE;
        World w = new World();
        World image = null;
        String tape = "";
        final Row[] sheets = new Row[4];
        final Object[] slots = new Object[5];
        List<Integer> waiting = new ArrayList<>();

        static boolean in(int v, int a, int b) { return v >= a && v <= b; }
        boolean isBin(int b) { return in(b, 0, w.bins.size() - 1); }

        int bin(int kind, int of, int tons) {
            if (!in(kind, 0, 5) || !in(of, 0, 9999) || !in(tons, 0, 9999)) { return BAD; }
            if (w.bins.size() == 6) { return FULL; }
            Bin b = new Bin();
            b.kind = kind;
            b.share = of / 100;
            b.price = of % 100;
            b.tons = tons;
            b.stuff = Stuff.of(kind, b.share);
            w.bins.add(b);
            return w.bins.size() - 1;
        }

        int told(int bin, int what) {
            if (!isBin(bin) || !in(what, 0, 5)) { return BAD; }
            Bin b = w.bins.get(bin);
            return new int[] {b.kind, b.share, b.price, b.tons, b.turns, (int) b.stuff.holds()}[what];
        }

        int of(int bin, int t, int what) {
            if (!isBin(bin) || !in(t, 0, 999) || !in(what, 0, 3)) { return BAD; }
            Stuff s = w.bins.get(bin).stuff;
            return (int) new long[] {s.bulk(t), s.iron(t), s.acid(t), s.lime(t)}[what];
        }

        int as(int bin, int kind) {
            if (!isBin(bin) || !in(kind, 0, 5)) { return BAD; }
            return Stuff.kind(kind).isInstance(w.bins.get(bin).stuff) ? w.bins.get(bin).tons : KIND;
        }

        int fill(int bin, int n) {
            if (!isBin(bin) || !in(n, 1, 9999)) { return BAD; }
            if (w.bins.get(bin).tons + n > 9999) { return FULL; }
            return w.bins.get(bin).tons += n;
        }

        int turns(int bin, int v) {
            if (!isBin(bin) || !in(v, 1, 99999)) { return BAD; }
            int was = w.bins.get(bin).turns;
            w.bins.get(bin).turns = v;
            return was;
        }

        int rule(int what, int v) {
            if (!in(what, 0, 2) || !in(v, what == 1 ? 0 : 1, 999)) { return BAD; }
            int was = w.rules[what];
            w.rules[what] = v;
            return was;
        }

        int empty(int bin, int r) {
            return !isBin(bin) || !in(r, 1, 999) ? BAD : w.bins.get(bin).tons / r;
        }

        int charge(int bin, int t) {
            if (!isBin(bin) || !in(t, 1, 999)) { return BAD; }
            if (w.bins.get(bin).tons < t) { return NO; }
            if (w.layers.size() == 24) { return FULL; }
            w.charge(bin, t);
            return w.layers.size();
        }

        int layer(int layer, int what) {
            if (!in(layer, 0, w.layers.size() - 1) || !in(what, 0, 8)) { return BAD; }
            Lay l = w.layers.get(layer);
            return what > 3 ? (int) l.bulk[what - 4] : new int[] {l.bin, l.hour, l.tons, (int) l.left()}[what];
        }

        int ring(int ring, int what) {
            if (!in(ring, 0, 4) || !in(what, 0, 3)) { return BAD; }
            long part = w.gasParts()[ring];
            return (int) new long[] {w.top(ring), w.resistance(ring), part, part / 4 + 1}[what];
        }

        int run(int n) {
            if (!in(n, 1, 60)) { return BAD; }
            if (w.hour + n > 999) { return FULL; }
            for (int i = 0; i < n; i++) { w.pass(); }
            return w.hour;
        }

        int round() {
            int charged = 0;
            for (int b = 0; b < w.bins.size(); b++) {
                int text = w.text(0, b);
                if (text < 0) { continue; }
                int[] letters = new int[128];
                letters['h'] = w.hour;
                letters['t'] = (int) w.greatestTop();
                letters['b'] = (int) w.basic();
                letters['s'] = w.bins.get(b).tons;
                int t = Math.min(World.held(w.texts.get(text).tree.worth(letters)), w.bins.get(b).tons);
                if (t > 0 && w.layers.size() < 24) {
                    w.charge(b, t);
                    charged++;
                }
            }
            return charged;
        }

        int hearth(int what) {
            return !in(what, 0, 3) ? BAD : (int) new long[] {w.iron, w.acid, w.lime, w.basic()}[what];
        }

        int cast(int n) {
            if (!in(n, 1, 9999)) { return BAD; }
            if (w.iron < n) { return NO; }
            w.cast(n);
            return (int) w.iron;
        }

        int down(int layer) {
            if (!in(layer, 0, w.layers.size() - 1)) { return BAD; }
            World c = w.copy();
            Lay l = c.layers.get(layer);
            for (int i = 0; i < 60; i++) {
                c.pass();
                if (!c.layers.contains(l)) { return c.hour - 1; }
            }
            return NONE;
        }

        int feed(int... three) {
            if (tape.length() + 12 > 96) { return FULL; }
            for (int v : three) {
                for (int k = 3; k >= 0; k--) { tape += (char) (v >> 8 * k & 255); }
            }
            return tape.length();
        }

        int trim(int n) {
            if (!in(n, 0, tape.length())) { return BAD; }
            tape = tape.substring(0, n);
            return n;
        }

        int text() {
            String s = tape;
            tape = "";
            try {
                Reader r = new Reader(s);
                if (w.texts.size() == 12) { return FULL; }
                w.texts.add(r);
                return w.texts.size() - 1;
            } catch (Fault f) {
                return -100 - f.place;
            }
        }

        int textTold(int text, int what) {
            if (!in(text, 0, w.texts.size() - 1) || !in(what, 0, 2)) { return BAD; }
            Reader r = w.texts.get(text);
            return new int[] {r.key, r.key == 0 ? r.bin : NONE, r.pieces}[what];
        }

        int why(int key, int bin) {
            if (!in(key, 0, 2) || key == 0 && !in(bin, 0, 5)) { return BAD; }
            return w.text(key, bin) < 0 ? NONE : w.text(key, bin);
        }

        int choose(int bin) {
            if (!isBin(bin)) { return BAD; }
            if (w.told.contains(bin)) { return NO; }
            if (w.told.size() == 3) { return FULL; }
            w.told.add(bin);
            return w.told.size();
        }

        int clear() {
            int were = w.told.size();
            w.told.clear();
            return were;
        }

        int burden(int need, int ends, int what) {
            if (!in(need, 0, 9999) || !in(ends, 0, 999999) || ends / 1000 > ends % 1000 || !in(what, -1, w.told.size() - 1)) { return BAD; }
            int n = w.told.size();
            int[] most = {n > 0 ? 9 : 0, n > 1 ? 9 : 0, n > 2 ? 9 : 0};
            long best = Long.MAX_VALUE;
            int[] mix = null;
            for (int a = 0; a <= most[0]; a++) {
                for (int b = 0; b <= most[1]; b++) {
                    for (int c = 0; c <= most[2]; c++) {
                        int[] u = {a, b, c};
                        long iron = 0, acid = 0, lime = 0, price = 0;
                        for (int i = 0; i < n; i++) {
                            Bin bin = w.bins.get(w.told.get(i));
                            iron += bin.stuff.iron(10 * u[i]);
                            acid += bin.stuff.acid(10 * u[i]);
                            lime += bin.stuff.lime(10 * u[i]);
                            price += bin.price * 10 * u[i];
                        }
                        long basic = acid == 0 ? 0 : 100 * lime / acid;
                        if (iron >= need && basic >= ends / 1000 && basic <= ends % 1000 && price < best) {
                            best = price;
                            mix = u;
                        }
                    }
                }
            }
            return mix == null ? NONE : what == -1 ? (int) best : mix[what];
        }

        int ladle(int cap) {
            if (!in(cap, 1, 999)) { return BAD; }
            if (w.ladles.size() == 6) { return FULL; }
            w.ladles.add(new long[] {cap, 0, w.ladles.size()});
            return w.ladles.size() - 1;
        }

        int backAt(int ladle) {
            return !in(ladle, 0, w.ladles.size() - 1) ? BAD : (int) Math.min(99999, w.ladles.get(ladle)[1]);
        }

        int pour(int n, int minute) {
            if (!in(n, 1, 9999) || !in(minute, 0, 9999)) { return BAD; }
            if (w.ladles.isEmpty() || w.iron < n) { return NO; }
            w.cast(n);
            long late = 0, ended = minute, left = n;
            int fillings = 0;
            for (; left > 0; fillings++) {
                long[] l = Collections.min(w.ladles, (a, b) -> a[1] != b[1] ? Long.compare(a[1], b[1]) : Long.compare(a[2], b[2]));
                long begins = l[1] > ended ? l[1] : ended;
                late += begins - ended;
                long goes = left > l[0] ? l[0] : left;
                left -= goes;
                ended = begins + goes;
                l[1] = ended + w.rules[2];
            }
            int text = w.text(2, -1);
            if (text >= 0) {
                int[] letters = new int[128];
                letters['h'] = w.hour;
                letters['c'] = fillings;
                late += World.held(w.texts.get(text).tree.worth(letters));
            }
            return (int) late;
        }

        int sheet(int sheet, int sort, int n) {
            if (!in(sheet, 0, 3) || !in(sort, -1, 1)) { return BAD; }
            if (sort == -1) {
                sheets[sheet] = null;
                return 0;
            }
            if (n > 24) { return BAD; }
            if (n < 0) { return SIZE; }
            sheets[sheet] = new Row(sort, new ArrayList<>(Collections.nCopies(n, 0)));
            return n;
        }

        int mark(int sheet, int place, int v) {
            if (!in(sheet, 0, 3)) { return BAD; }
            Row s = sheets[sheet];
            if (s == null) { return NOTHING; }
            if (!in(place, 0, s.places.size() - 1)) { return INDEX; }
            if (s.sort == 0 && v == NONE) { return KIND; }
            if (s.sort == 1 && v != NONE && !in(v, -99999, 99999)) { return BAD; }
            s.places.set(place, v == NONE ? null : s.sort == 0 ? Integer.valueOf((short) v) : Integer.valueOf(v));
            return 1;
        }

        int sound(int sheet, int what, int n) {
            if (!in(sheet, 0, 3) || !in(what, 0, 1) || what == 1 && !in(n, 0, 9999)) { return BAD; }
            if (sheets[sheet] == null) { return NOTHING; }
            List<Integer> known = new ArrayList<>(sheets[sheet].places);
            known.removeIf(v -> v == null);
            int slips = 0, most = 0;
            for (int from = 1; from < known.size(); from++) {
                if (known.get(from - 1) - known.get(from) > n) { slips++; }
                int to = from;
                while (to < known.size() && known.get(to) >= known.get(to - 1)) { to++; }
                most = Math.max(most, to - from);
            }
            return what == 0 ? most : slips;
        }

        int tops(int sheet, int place) {
            if (!in(sheet, 0, 3)) { return BAD; }
            Row s = sheets[sheet];
            if (s == null) { return NOTHING; }
            if (!in(place, 0, s.places.size() - 1)) { return INDEX; }
            int many = 0;
            for (int r = 0; r < 5 && place + r < s.places.size(); r++) {
                int top = (int) w.top(r);
                s.places.set(place + r, s.sort == 0 ? (int) (short) top : top);
                many++;
            }
            return many;
        }

        int copy(int from, int place, int to, int at, int many) {
            if (!in(from, 0, 3) || !in(to, 0, 3)) { return BAD; }
            if (sheets[from] == null || sheets[to] == null) { return NOTHING; }
            if (sheets[from].sort != sheets[to].sort) { return KIND; }
            long a = sheets[from].places.size(), b = sheets[to].places.size();
            if (many < 0 || place < 0 || at < 0 || (long) place + many > a || (long) at + many > b) { return INDEX; }
            List<Integer> taken = new ArrayList<>(sheets[from].places.subList(place, place + many));
            for (int i = 0; i < many; i++) { sheets[to].places.set(at + i, taken.get(i)); }
            return many;
        }

        static int thing(Object held) {
            return held == null ? 0 : held instanceof Stuff ? 1 : held instanceof Row ? 2 : 3;
        }

        int lay(int slot, int thing, int k) {
            if (!in(slot, 0, 4) || !in(thing, 0, 3) || thing == 1 && !isBin(k) || thing == 2 && !in(k, 0, 3)) { return BAD; }
            if (thing == 2 && sheets[k] == null) { return NOTHING; }
            int held = thing(slots[slot]);
            slots[slot] = thing == 0 ? null : thing == 1 ? w.bins.get(k).stuff
                : thing == 2 ? new Row(sheets[k].sort, new ArrayList<>(sheets[k].places)) : (Object) k;
            return held;
        }

        int ask(int slot, int kind) {
            if (!in(slot, 0, 4) || !in(kind, 0, 5)) { return BAD; }
            if (slots[slot] == null) { return NOTHING; }
            return Stuff.kind(kind).isInstance(slots[slot]) ? (int) ((Stuff) slots[slot]).acid(100) : KIND;
        }

        int item(int slot, int place) {
            if (!in(slot, 0, 4)) { return BAD; }
            if (slots[slot] == null) { return NOTHING; }
            if (!(slots[slot] instanceof Row)) { return KIND; }
            List<Integer> places = ((Row) slots[slot]).places;
            if (!in(place, 0, places.size() - 1)) { return INDEX; }
            return places.get(place) == null ? KIND : places.get(place);
        }

        int rest(int slot, int n) {
            if (!in(slot, 0, 4)) { return BAD; }
            if (slots[slot] == null) { return NOTHING; }
            if (!(slots[slot] instanceof Integer)) { return KIND; }
            return n == 0 ? NO : (int) ((long) (Integer) slots[slot] % n);
        }

        int tell(int v) {
            if (waiting.size() == 60) { return FULL; }
            waiting.add(v);
            return waiting.size();
        }

        List<Integer> hoursTold(int n) {
            List<Integer> due = new ArrayList<>();
            if (image != null) {
                World c = image.copy();
                for (int i = 0; i < n; i++) {
                    c.pass();
                    due.add((int) c.iron);
                    due.add((int) c.all());
                }
            }
            return due;
        }

        int check(int n) {
            List<Integer> said = waiting;
            waiting = new ArrayList<>();
            if (!in(n, 1, 30)) { return BAD; }
            if (image == null) { return NO; }
            List<Integer> due = hoursTold(n);
            if (said.equals(due)) { return 0; }
            int right = 0;
            while (right < due.size() && right < said.size() && due.get(right).equals(said.get(right))) { right++; }
            return 1 + right;
        }

        int keep() {
            image = w.copy();
            return w.hour;
        }

        int back() {
            if (image == null) { return NO; }
            w = image.copy();
            return w.hour;
        }

        int count(int what) {
            if (!in(what, 0, 8)) { return BAD; }
            return new int[] {w.bins.size(), w.layers.size(), (int) w.all(), w.texts.size(), w.told.size(), w.ladles.size(),
                w.hour, waiting.size(), tape.length()}[what];
        }
    }
}
