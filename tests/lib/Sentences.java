import java.lang.annotation.Retention;
import java.lang.annotation.RetentionPolicy;
import java.lang.reflect.InvocationTargetException;
import java.lang.reflect.Method;
import java.nio.file.Files;
import java.nio.file.Path;
import java.util.ArrayList;
import java.util.Arrays;
import java.util.Comparator;
import java.util.LinkedHashMap;
import java.util.List;
import java.util.Map;
import java.util.regex.Matcher;
import java.util.regex.Pattern;

/**
 * Runs tests of single sentences. Each test quotes the words of the document that it stands for; words that do not
 * stand there once, and words of the document that name an edge and that no test quotes, are faults too.
 */
final class Sentences {
    /** The part of the document (Use, Terms, Section 3, Promise 12) and the words in it that a test stands for. */
    @Retention(RetentionPolicy.RUNTIME)
    @interface Says {
        String at();
        String[] words();
    }

    /** What names an edge in the sections. */
    private static final String EDGES_OF_TERMS = "-?\\d+ \\.\\. \\d+|\\bat (?:most|least|first)\\b|\\bcut\\b|\\b(?:above|below)\\b|\\bby 0\\b|\\bwrap\\b"
        + "|\\bwithout\\b|\\bwhatever\\b|\\bas far as\\b|\\bnothing\\b|\\blost\\b|\\bninth\\b|\\bmore than\\b|\\bnot all 0\\b|\\bgoes on\\b|\\bneeds\\b"
        + "|\\bMISSING\\b|\\bNO NUMBER\\b|\\bagain and again\\b|\\btoo soon\\b|\\blike ones\\b|\\bseveral\\b|\\bor more\\b|\\bfull HOURS\\b|\\bnone\\b"
        + "|\\bas it (?:was|is) then\\b|\\bneither\\b|\\bany more\\b|\\bnot lower\\b|\\bwithin two\\b|NOTHING:|INDEX:|SIZE:|KIND:";
    /** What names an edge in the promises. */
    private static final String EDGES_OF_PROMISES = "\\b(?:BAD|NO|FULL|NONE|NOTHING|INDEX|SIZE)\\b|KIND:|-?\\d+ \\.\\. -?\\d+|\\bn any\\b|\\b16 bits\\b"
        + "|\\b(?:above|below)\\b|\\bdoes not matter\\b|\\bas far as\\b|\\bwhatever\\b|\\bno BINS\\b|\\bfive digits\\b|\\bB not\\b";

    static final int LEAST = Integer.MIN_VALUE;
    static final int MOST = Integer.MAX_VALUE;

    private static int wrong = 0;
    private static String now = "";

    private Sentences() {
    }

    // ---- answers

    static void due(String what, long got, long due) {
        if (got != due) {
            fault(what + " answered " + got + ", due is " + due);
        }
    }

    static void row(String what, int[] got, int... due) {
        if (!Arrays.equals(got, due)) {
            fault(what + " answered " + Arrays.toString(got) + ", due is " + Arrays.toString(due));
        }
    }

    static void fault(String what) {
        wrong++;
        System.out.println(now + ": " + what);
    }

    // ---- objects

    /** A new object with one bin. */
    static BurdenHouse withBin(int kind, int of, int tons) {
        BurdenHouse x = new BurdenHouse();
        due("bin", x.bin(kind, of, tons), 0);
        return x;
    }

    /** A new object with a bin of 9999 tons of STUFF (BULK as tons, HOLDS 2), which all goes to one ring and stays there. */
    static BurdenHouse withStuffInRing(int ring) {
        BurdenHouse x = withBin(0, 0, 9999);
        x.rule(0, 999);
        x.turns(0, 9 * power(4 - ring));
        return x;
    }

    /** Rings of like weights: bulk 0, 1, 2, 3, 4 of STUFF makes resistances 1, 3, 5, 7, 9. */
    static BurdenHouse withLikeWeights() {
        BurdenHouse x = withBin(0, 0, 9999);
        x.turns(0, 1234);
        due("charge", x.charge(0, 10), 1);
        row("resistances", rings(x, 1), 1, 3, 5, 7, 9);
        return x;
    }

    /** An empty furnace, and in the hearth 90 IRON, 35 ACID, 75 LIME: ORE 90 and 12, FLUX 75, STUFF 23. */
    static BurdenHouse withHearth() {
        BurdenHouse x = withBin(1, 9010, 9999);
        x.bin(5, 7503, 9999);
        x.bin(0, 0, 9999);
        x.rule(1, 999);
        Sentences.each("turns", 22222, bin -> x.turns(bin, 13579), 0, 1, 2);
        x.charge(0, 100);
        x.charge(1, 100);
        x.charge(2, 230);
        x.run(60);
        row("hearth", hearth(x), 90, 35, 75, 214);
        due("all is eaten", x.count(2), 0);
        return x;
    }

    /** A hearth of 9999 IRON and more: ORE is charged ahead of every second hour. */
    static BurdenHouse withMuchIron() {
        BurdenHouse x = withBin(1, 9900, 9999);
        x.turns(0, 11111);
        x.rule(0, 999);
        x.rule(1, 999);
        for (int i = 0; i < 16; i++) {
            x.charge(0, 999);
            x.fill(0, 999);
            x.run(2);
        }
        due("there is much iron", x.hearth(0) >= 9999 ? 1 : 0, 1);
        return x;
    }

    /** Hours go by, more than one run takes. */
    static void runTo(BurdenHouse x, int hour) {
        int before = x.count(6);
        while (before < hour) {
            int next = Math.min(hour, before + 60);
            due("run", x.run(next - before), next);
            before = next;
        }
    }

    static int power(int of10) {
        return of10 == 0 ? 1 : 10 * power(of10 - 1);
    }

    // ---- rows of answers

    static int[] rings(BurdenHouse x, int what) {
        return answers(5, i -> x.ring(i, what));
    }

    static int[] hearth(BurdenHouse x) {
        return answers(4, x::hearth);
    }

    /** Bulk of a layer in each ring. */
    static int[] bulk(BurdenHouse x, int layer) {
        return answers(5, i -> x.layer(layer, 4 + i));
    }

    /** The first places of a sheet, by way of slot 4. */
    static int[] places(BurdenHouse x, int sheet, int many) {
        x.lay(4, 2, sheet);
        return answers(many, i -> x.item(4, i));
    }

    static void marks(BurdenHouse x, int sheet, int... values) {
        for (int i = 0; i < values.length; i++) {
            due("mark", x.mark(sheet, i, values[i]), 1);
        }
    }

    interface Answer {
        int of(int i);
    }

    static int[] answers(int many, Answer answer) {
        int[] all = new int[many];
        for (int i = 0; i < many; i++) {
            all[i] = answer.of(i);
        }
        return all;
    }

    /** Each of some numbers is answered alike. */
    static void each(String what, int due, Answer answer, int... numbers) {
        for (int number : numbers) {
            due(what + " of " + number, answer.of(number), due);
        }
    }

    // ---- texts

    /** Puts a text on the empty tape by feed and trim. */
    static void type(BurdenHouse x, String text) {
        x.trim(0);
        for (int i = 0; i < text.length(); i += 12) {
            x.feed(four(text, i), four(text, i + 4), four(text, i + 8));
        }
        due("trim of " + text, x.trim(text.length()), text.length());
    }

    private static int four(String text, int from) {
        int all = 0;
        for (int i = from; i < from + 4; i++) {
            all = all * 256 + (i < text.length() ? text.charAt(i) : 0);
        }
        return all;
    }

    static int read(BurdenHouse x, String text) {
        type(x, text);
        return x.text();
    }

    /** The fault of a text stands at a place. */
    static void faultAt(int place, String text) {
        due("text \"" + text + "\"", read(new BurdenHouse(), text), -100 - place);
    }

    static void isText(String text) {
        due("text \"" + text + "\"", read(new BurdenHouse(), text), 0);
    }

    /** What E gives as gas, held within 0 .. 999: all gas is parted, so the parts together are it. */
    static int gas(BurdenHouse x, String e) {
        int text = read(x, "gas " + e);
        if (text < 0) {
            fault("text \"gas " + e + "\" answered " + text);
        }
        return Arrays.stream(rings(x, 2)).sum();
    }

    static void gives(int due, String e) {
        due("gas by " + e, gas(new BurdenHouse(), e), due);
    }

    // ---- the running of tests

    /** Runs all tests of a class, or those named; all edges in the parts told must be quoted by them. */
    static void run(Class<?> tests, String parts, String... only) throws Exception {
        Map<String, String> document = partsOfDocument();
        Map<String, boolean[]> quoted = new LinkedHashMap<>();
        document.forEach((part, text) -> quoted.put(part, new boolean[text.length()]));
        int ran = 0;
        for (Method test : testsOf(tests)) {
            Says says = test.getAnnotation(Says.class);
            now = test.getName() + " (" + says.at() + ": " + says.words()[0] + ")";
            for (String words : says.words()) {
                quote(document.get(says.at()), quoted.get(says.at()), words);
            }
            if (only.length == 0 || Arrays.asList(only).contains(test.getName())) {
                runOne(test);
                ran++;
            }
        }
        now = "edges";
        if (only.length == 0) {
            document.forEach((part, text) -> {
                if (part.matches(parts)) {
                    findUnquoted(part, text, quoted.get(part));
                }
            });
        }
        due("some tests ran", ran > 0 ? 1 : 0, 1);
        System.out.println(ran + " sentences: " + (wrong == 0 ? "all answers are as due" : wrong + " answers are not as due"));
        if (wrong != 0) {
            System.exit(1);
        }
    }

    private static List<Method> testsOf(Class<?> tests) {
        List<Method> all = new ArrayList<>();
        for (Method method : tests.getDeclaredMethods()) {
            if (method.isAnnotationPresent(Says.class)) {
                method.setAccessible(true);
                all.add(method);
            }
        }
        all.sort(Comparator.comparing(Method::getName));
        return all;
    }

    private static void runOne(Method test) throws Exception {
        try {
            test.invoke(null);
        } catch (InvocationTargetException thrown) {
            fault("threw " + thrown.getCause());
        }
    }

    private static void quote(String part, boolean[] quoted, String words) {
        int at = part == null ? -1 : part.indexOf(words);
        if (at < 0 || part.indexOf(words, at + 1) >= 0) {
            fault("the document does not say once: " + words);
            return;
        }
        Arrays.fill(quoted, at, at + words.length(), true);
    }

    private static void findUnquoted(String part, String text, boolean[] quoted) {
        Matcher edges = Pattern.compile(part.startsWith("Promise") ? EDGES_OF_PROMISES : EDGES_OF_TERMS).matcher(text);
        while (edges.find()) {
            if (!quoted[edges.start()] || !quoted[edges.end() - 1]) {
                fault("no test stands for " + part + ": .." + text.substring(Math.max(0, edges.start() - 30), Math.min(text.length(), edges.end() + 30)) + "..");
            }
        }
    }

    private static Map<String, String> partsOfDocument() throws Exception {
        String document = Files.readString(Path.of("../shared/DOC.md")).replace("```text", " ").replaceAll("\\s+", " ");
        Map<String, String> parts = new LinkedHashMap<>();
        parts.put("Use", between(document, "## What it is", "## The public face"));
        parts.put("Terms", between(document, "## Terms", "======== 1"));
        for (int section = 1; section <= 5; section++) {
            parts.put("Section " + section, between(document, "======== " + section, section < 5 ? "======== " + (section + 1) : "Ahead of the calls `bin`"));
        }
        for (int promise = 1; promise <= 42; promise++) {
            parts.put("Promise " + promise, between(document, "## Promise " + promise + ":", promise < 42 ? "## Promise " + (promise + 1) + ":" : "## Not promised"));
        }
        return parts;
    }

    private static String between(String document, String head, String next) {
        int from = document.indexOf(head);
        int to = document.indexOf(next, from + 1);
        due("the document has the part of " + head, from >= 0 && to > from ? 1 : 0, 1);
        return document.substring(from + head.length(), to);
    }
}
