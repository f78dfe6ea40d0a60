import java.lang.reflect.Method;
import java.lang.reflect.Modifier;
import java.nio.file.Files;
import java.nio.file.Path;
import java.util.Arrays;
import java.util.HashMap;
import java.util.Map;
import java.util.Set;
import java.util.TreeSet;
import java.util.regex.Matcher;
import java.util.regex.Pattern;

/** Plays the calls that README.md shows, one behind the other on one object: each answers what stands behind it. */
public final class ReadmeTests {
    private static final Pattern CALL = Pattern.compile("(?:int (\\w+) = )?house\\.(\\w+)\\(([^)]*)\\);\\s+// (-?\\w+).*");

    private static int wrong = 0;

    public static void main(String[] args) throws Exception {
        String readme = Files.readString(Path.of("README.md"));
        int played = play(readme);
        due("calls that README.md shows", played >= 30, true);
        due("calls that README.md names in its table", namedInTable(readme), namesOfCalls());
        testsAreTold(readme);
        System.out.println(played + " calls of README.md: " + (wrong == 0 ? "all answers are as due" : wrong + " faults"));
        if (wrong != 0) {
            System.exit(1);
        }
    }

    private static void due(String what, Object got, Object due) {
        if (!due.equals(got)) {
            wrong++;
            System.out.println(what + ": " + got + ", due is " + due);
        }
    }

    private static int play(String readme) throws Exception {
        BurdenHouse house = null;
        Map<String, Integer> variables = new HashMap<>();
        int played = 0;
        Matcher blocks = Pattern.compile("(?s)```java\n(.*?)```").matcher(readme);
        while (blocks.find()) {
            for (String line : blocks.group(1).split("\n")) {
                Matcher call = CALL.matcher(line);
                if (line.equals("BurdenHouse house = new BurdenHouse();")) {
                    house = new BurdenHouse();
                } else if (house == null || !call.matches()) {
                    due("a line of README.md that shows a call and its answer", line, "house.call(..); // answer");
                } else {
                    int got = answer(house, call.group(2), call.group(3), variables);
                    due(line, got, worth(call.group(4), variables));
                    if (call.group(1) != null) {
                        variables.put(call.group(1), got);
                    }
                    played++;
                }
            }
        }
        return played;
    }

    private static int answer(BurdenHouse house, String name, String inBrackets, Map<String, Integer> variables) throws Exception {
        String[] words = inBrackets.isEmpty() ? new String[0] : inBrackets.split(", ");
        Object[] arguments = new Object[words.length];
        for (int i = 0; i < words.length; i++) {
            arguments[i] = worth(words[i], variables);
        }
        Class<?>[] types = new Class<?>[words.length];
        Arrays.fill(types, int.class);
        return (Integer) BurdenHouse.class.getMethod(name, types).invoke(house, arguments);
    }

    /** A variable, a constant of the class, or a number. */
    private static int worth(String word, Map<String, Integer> variables) throws Exception {
        if (variables.containsKey(word)) {
            return variables.get(word);
        }
        return Character.isUpperCase(word.charAt(0)) ? BurdenHouse.class.getField(word).getInt(null) : Integer.decode(word);
    }

    private static Set<String> namedInTable(String readme) {
        Set<String> names = new TreeSet<>();
        String table = readme.substring(0, readme.indexOf("## Tests")).replaceAll("(?m)^[^|].*$", "");
        Matcher named = Pattern.compile("`(\\w+)`").matcher(table);
        while (named.find()) {
            names.add(named.group(1));
        }
        return names;
    }

    private static Set<String> namesOfCalls() {
        Set<String> names = new TreeSet<>();
        for (Method method : BurdenHouse.class.getDeclaredMethods()) {
            if (Modifier.isPublic(method.getModifiers())) {
                names.add(method.getName());
            }
        }
        return names;
    }

    /** README.md tells of each test of the project by its name. */
    private static void testsAreTold(String readme) throws Exception {
        try (var files = Files.list(Path.of("tests"))) {
            for (Path file : (Iterable<Path>) files.sorted()::iterator) {
                String name = file.getFileName().toString();
                if (name.endsWith(".java")) {
                    due("README.md tells of " + name, readme.contains("`" + name.replace(".java", "") + "`"), true);
                }
            }
        }
    }
}
