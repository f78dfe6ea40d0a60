import java.lang.management.ManagementFactory;
import java.lang.reflect.Constructor;
import java.lang.reflect.Field;
import java.lang.reflect.InvocationTargetException;
import java.lang.reflect.Method;
import java.lang.reflect.Modifier;
import java.nio.charset.StandardCharsets;
import java.nio.file.Files;
import java.nio.file.Path;
import java.util.Arrays;
import java.util.Comparator;
import java.util.Random;
import java.util.Set;
import java.util.TreeSet;
import java.util.regex.Matcher;
import java.util.regex.Pattern;

/** The face of the document, the rules of ../shared/LANGUAGE.md that can be seen from outside, and the room that calls take. */
public final class LanguageTests {
    private static int wrong = 0;

    public static void main(String[] args) throws Exception {
        face();
        nested();
        source();
        room();
        neverThrows();
        System.out.println(wrong == 0 ? "all is as due" : wrong + " faults");
        if (wrong != 0) {
            System.exit(1);
        }
    }

    private static void due(String what, Object got, Object due) {
        if (!due.equals(got)) {
            wrong++;
            System.out.println(what + ": " + got + ", due is " + due);
        }
    }

    private static String method(String name, int parameters) {
        return name + "/" + parameters;
    }

    private static void face() throws Exception {
        Set<String> due = new TreeSet<>();
        Matcher lines = Pattern.compile("public int (\\w+)\\(([^)]*)\\);").matcher(Files.readString(Path.of("../shared/DOC.md")));
        while (lines.find()) {
            due.add(method(lines.group(1), lines.group(2).isEmpty() ? 0 : lines.group(2).split(",").length));
        }
        due("methods of the document", due.size(), 41);
        Set<String> names = new TreeSet<>();
        Set<String> got = new TreeSet<>();
        for (Method m : BurdenHouse.class.getDeclaredMethods()) {
            if (Modifier.isPublic(m.getModifiers())) {
                got.add(method(m.getName(), m.getParameterCount()));
                names.add(m.getName());
                due(m + " gives an int", m.getReturnType(), int.class);
                due(m + " is of the object", Modifier.isStatic(m.getModifiers()), false);
                due(m + " takes ints", Arrays.stream(m.getParameterTypes()).allMatch(t -> t == int.class), true);
            } else {
                due(m + " is private", Modifier.isPrivate(m.getModifiers()), true);
            }
        }
        due("public methods", got, due);
        for (Class<?> c : BurdenHouse.class.getDeclaredClasses()) {
            for (Method m : c.getDeclaredMethods()) {
                due(m + " bears no public name", names.contains(m.getName()), false);
            }
        }
        for (Method m : BurdenHouse.class.getDeclaredMethods()) {
            due(m + " bears no public name", Modifier.isPrivate(m.getModifiers()) && names.contains(m.getName()), false);
        }
        due("the class", BurdenHouse.class.getModifiers(), Modifier.PUBLIC | Modifier.FINAL);
        Constructor<?>[] made = BurdenHouse.class.getDeclaredConstructors();
        due("constructors", made.length, 1);
        due("the constructor is public", Modifier.isPublic(made[0].getModifiers()) && made[0].getParameterCount() == 0, true);
        constants();
    }

    private static void constants() throws Exception {
        String[] names = {"BAD", "NO", "FULL", "NONE", "NOTHING", "KIND", "INDEX", "SIZE"};
        int[] values = {-1000000001, -1000000002, -1000000003, -1000000005, -1000000011, -1000000012, -1000000013, -1000000014};
        for (int i = 0; i < names.length; i++) {
            due(names[i], BurdenHouse.class.getField(names[i]).getInt(null), values[i]);
        }
        due("public fields", BurdenHouse.class.getFields().length, names.length);
    }

    private static void nested() {
        fields(BurdenHouse.class, true);
        due("some twelve classes", BurdenHouse.class.getDeclaredClasses().length <= 11, true);
        for (Class<?> c : BurdenHouse.class.getDeclaredClasses()) {
            due(c + " is static", Modifier.isStatic(c.getModifiers()), true);
            due(c + " is not public", Modifier.isPublic(c.getModifiers()) || Modifier.isProtected(c.getModifiers()), false);
            fields(c, false);
        }
    }

    private static void fields(Class<?> c, boolean outer) {
        int own = 0;
        for (Field f : c.getDeclaredFields()) {
            int m = f.getModifiers();
            if (Modifier.isStatic(m)) {
                due(f + " is final", Modifier.isFinal(m), true);
            } else {
                own++;
                due(f + " is not for others", outer && !Modifier.isPrivate(m), false);
            }
        }
        due(c + " has some twenty fields", own <= 20, true);
    }

    private static void source() throws Exception {
        String all = Files.readString(Path.of("src/main/java/BurdenHouse.java"), StandardCharsets.US_ASCII);
        String bare = all.replaceAll("(?s)/\\*.*?\\*/", "").replaceAll("//[^\n]*", "").replaceAll("\"[^\"]*\"", "TEXT").replaceAll("'[^']+'", "SIGN");
        String[] never = {"\\bthrow\\b", "\\bthrows\\b", "\\btry\\b", "\\bcatch\\b", "\\bsynchronized\\b", "\\bassert\\b", "->", "::", "\\w+Exact\\b",
            "\\bpackage\\b", "\\bimport\\b", "\\bSystem\\.(?!arraycopy)", "\\+=? *TEXT", "TEXT *\\+", "\\btoString\\b", "\\bhashCode\\b", "\\bnull\\b",
            "\\bdouble\\b", "\\bfloat\\b", "\\bobject\\b", "@", "\\bThread\\b"};
        for (String word : never) {
            Matcher found = Pattern.compile(word).matcher(bare);
            due("the source has no " + word, found.find(), false);
        }
        methods(bare);
    }

    private static void methods(String bare) {
        String head = "";
        String indent = "";
        int lines = 0;
        int methods = 0;
        for (String line : bare.split("\n")) {
            if (line.matches("    (public|private) .*\\) \\{") || line.matches("        (static |final )*[\\w\\[\\]]+ \\w+\\(.*\\) \\{") && !line.contains(" else ")) {
                head = line.trim();
                indent = line.substring(0, line.indexOf(head));
                lines = 0;
                methods++;
                due(head + " takes at most seven", head.split(",").length <= 7, true);
            }
            lines++;
            if (!head.isEmpty() && line.equals(indent + "}")) {
                due(head + " is short", lines <= 60, true);
                head = "";
            }
        }
        due("methods were seen: " + methods, methods > 100, true);
    }

    /** What one object takes: all rows are made in the constructor, so that calls make nothing. */
    private static void room() {
        com.sun.management.ThreadMXBean beans = (com.sun.management.ThreadMXBean) ManagementFactory.getThreadMXBean();
        long id = Thread.currentThread().getId();
        dearCalls(new BurdenHouse(), 20);
        long start = beans.getThreadAllocatedBytes(id);
        BurdenHouse x = new BurdenHouse();
        long made = beans.getThreadAllocatedBytes(id);
        int answered = dearCalls(x, 20);
        long after = beans.getThreadAllocatedBytes(id);
        due("calls answer", answered != 0, true);
        due("a new object is small: " + (made - start), made - start < 100000, true);
        due("calls make nothing: " + (after - made), after - made < 10000, true);
    }

    /** Any arguments in any state, far more calls than an object is used for: no call throws, each ends. */
    private static void neverThrows() throws Exception {
        int[] values = {Integer.MIN_VALUE, Integer.MIN_VALUE + 1, BurdenHouse.NONE, -100000, -99999, -2, -1, 0, 0, 1, 1, 2, 2, 3, 3, 4, 4, 5, 6, 8, 9, 12,
            20, 23, 24, 25, 30, 31, 59, 60, 61, 96, 97, 100, 999, 1000, 9999, 10000, 22222, 99999, 100000, 999999, 1000000,
            0x64726177, 0x20302068, 0x67617320, 0x68202020, 0x28282828, 0x21212121, 0x20202020, Integer.MAX_VALUE};
        Method[] methods = Arrays.stream(BurdenHouse.class.getDeclaredMethods()).filter(m -> Modifier.isPublic(m.getModifiers())).toArray(Method[]::new);
        Arrays.sort(methods, Comparator.comparing(Method::getName));
        Random random = new Random(512);
        for (int object = 0; object < 60; object++) {
            BurdenHouse x = new BurdenHouse();
            for (int call = 0; call < 4000; call++) {
                Method method = methods[random.nextInt(methods.length)];
                Object[] arguments = new Object[method.getParameterCount()];
                for (int i = 0; i < arguments.length; i++) {
                    arguments[i] = values[random.nextInt(values.length)];
                }
                try {
                    method.invoke(x, arguments);
                } catch (InvocationTargetException thrown) {
                    due(method.getName() + Arrays.toString(arguments), thrown.getCause(), "an answer");
                    return;
                }
            }
        }
    }

    private static int dearCalls(BurdenHouse x, int times) {
        int sum = 0;
        x.bin(1, 9900, 9999);
        x.bin(5, 9900, 9999);
        x.bin(2, 9900, 9999);
        x.choose(0);
        x.choose(1);
        x.choose(2);
        x.ladle(1);
        x.rule(1, 999);
        x.sheet(0, 0, 24);
        x.sheet(1, 0, 24);
        for (int i = 0; i < times; i++) {
            x.feed(0x64726177, 0x20302028, 0x2173292a);
            x.feed(0x39202020, 0x20202020, 0x20202020);
            x.trim(13);
            sum += x.text() + x.charge(i % 3, 300) + x.round() + x.keep() + x.run(3) + x.down(0) + x.tell(i) + x.check(30);
            sum += x.burden(9999, 999, -1) + x.burden(9, 999, -1) + x.pour(9, 0) + x.sheet(2, 1, 24) + x.tops(0, 2) + x.copy(0, 0, 1, 3, 9);
            sum += x.lay(i % 5, 2, 0) + x.lay(i % 4, 1, 0) + x.ask(i % 4, 1) + x.item(i % 5, 1) + x.sound(0, 0, 0) + (i % 5 == 4 ? x.back() : x.count(2));
        }
        return sum;
    }
}
