import java.lang.reflect.InvocationTargetException;
import java.lang.reflect.Method;
import java.nio.charset.StandardCharsets;
import java.nio.file.Files;
import java.nio.file.Path;
import java.util.HashMap;
import java.util.Map;
import java.util.Set;
import java.util.TreeSet;
import java.util.regex.Matcher;
import java.util.regex.Pattern;

/** What README.md says of answers is what the class answers; it tells of every call and of every test. Runs in the project's folder. */
public final class ReadmeTest {
    private static final Pattern NEW = Pattern.compile("SteerBench bench = new SteerBench\\(\\);");
    private static final Pattern CALL = Pattern.compile("(?:(?:int|long) (\\w+) = )?bench\\.(\\w+)\\(([^)]*)\\); +// (-?\\d+|[A-Z]+)(?:: .+)?");
    private static final Pattern ROW = Pattern.compile("\n\\| (?:`([A-Z]+)` \\((-?\\d+)\\)|(-?\\d+)[^|]*) \\| ([^|]*) \\|");
    private static final int RUNS = 2000;
    private static int asked = 0;
    private static int wrong = 0;

    private static SteerBench bench;
    private static final Map<String, Long> names = new HashMap<>();
    private static final Set<String> shown = new TreeSet<>();

    private ReadmeTest() {
    }

    public static void main(String[] args) throws Exception {
        String readme = Files.readString(Path.of("README.md"), StandardCharsets.UTF_8);
        Matcher example = Pattern.compile("(?s)```java\n(.*?)```").matcher(readme);
        while (example.find()) {
            bench = null;
            names.clear();
            for (String line : example.group(1).split("\n")) if (!line.isBlank()) run(line.trim());
        }
        everyCall(readme);
        refusals(readme);
        everyTest(readme);
        System.out.println(asked + " sayings of README.md looked at, " + wrong + " wrong");
        if (wrong != 0) System.exit(1);
    }

    private static void hold(String what, boolean holds) {
        asked++;
        if (!holds) {
            wrong++;
            System.out.println("not so: " + what);
        }
    }

    private static void run(String line) throws Exception {
        if (NEW.matcher(line).matches()) {
            bench = new SteerBench();
            return;
        }
        Matcher m = CALL.matcher(line);
        boolean isCall = m.matches();
        hold("an example's line is a call with its answer: " + line, isCall);
        if (!isCall) return;
        long answer = answer(m.group(2), m.group(3));
        if (m.group(1) != null) names.put(m.group(1), answer);
        hold(line + " (it answers " + answer + ")", answer == valueOf(m.group(4)));
        shown.add(m.group(2));
    }

    private static long answer(String name, String numbers) throws Exception {
        String[] parts = numbers.isBlank() ? new String[0] : numbers.split(", ");
        for (Method m : SteerBench.class.getMethods()) {
            if (!m.getName().equals(name) || m.getParameterCount() != parts.length) continue;
            Object[] values = new Object[parts.length];
            for (int i = 0; i < parts.length; i++) {
                long v = valueOf(parts[i]);
                if (m.getParameterTypes()[i] == long.class) values[i] = v;
                else values[i] = Math.toIntExact(v);
            }
            try {
                return ((Number) m.invoke(bench, values)).longValue();
            } catch (InvocationTargetException thrown) {
                hold(name + " does not throw " + thrown.getCause(), false);
            }
        }
        throw new IllegalArgumentException("README.md shows a call that there is not: " + name + "(" + numbers + ")");
    }

    /** A number, the name of an earlier answer, or a constant of the class. */
    private static long valueOf(String text) throws Exception {
        if (text.matches("-?\\d+")) return Long.parseLong(text);
        if (names.containsKey(text)) return names.get(text);
        return ((Number) SteerBench.class.getField(text).get(null)).longValue();
    }

    /** Each is shown by an example, and stands in the list of calls with its numbers' names. */
    private static void everyCall(String readme) throws Exception {
        String source = Files.readString(Path.of("src/main/java/SteerBench.java"), StandardCharsets.UTF_8);
        Matcher m = Pattern.compile("    public (?:int|long) (\\w+)\\((.*?)\\) \\{").matcher(source);
        int calls = 0;
        while (m.find()) {
            calls++;
            String call = m.group(1) + "(" + m.group(2).replaceAll("(int|long) ", "") + ")";
            hold("an example shows " + m.group(1), shown.contains(m.group(1)));
            hold("the list of calls has " + call, readme.contains("\n| `" + call + "` | "));
        }
        hold("there are as many calls as promises but the first", calls == Document.PROMISES - 1);
    }

    /** The numbers behind the names of the table are the constants', and its calls are those that so refuse. */
    private static void refusals(String readme) throws Exception {
        Map<Long, Set<String>> told = new HashMap<>();
        Matcher m = ROW.matcher(readme.substring(readme.indexOf("### Refusals"), readme.indexOf("## Tests")));
        while (m.find()) {
            long number = Long.parseLong(m.group(1) == null ? m.group(3) : m.group(2));
            if (m.group(1) != null) hold(m.group(1) + " is " + number, valueOf(m.group(1)) == number);
            Set<String> calls = new TreeSet<>();
            Matcher call = Pattern.compile("`(\\w+)`").matcher(m.group(4));
            while (call.find()) calls.add(call.group(1));
            told.put(number, calls);
        }
        hold("the table has all refusals: " + told.keySet(), told.keySet().equals(Set.of(-1L, -2L, -3L, -4L, -11L, -12L, -13L, -14L,
            -100000L, 0L, SteerBench.NO)));
        Map<Long, Set<String>> seen = refusalsSeen(told.keySet());
        for (long number : told.keySet())
            hold(number + " is told of " + told.get(number) + ", seen of " + seen.get(number), told.get(number).equals(seen.get(number)));
    }

    /** Of drawn calls, at most two for each of them; where a refusal's number may be an answer like any other it is not looked for. */
    private static Map<Long, Set<String>> refusalsSeen(Set<Long> numbers) throws Exception {
        Map<Long, Set<String>> seen = new HashMap<>();
        for (int run = 0; run < RUNS; run++) {
            AnyCalls calls = new AnyCalls(run);
            SteerBench x = new SteerBench();
            for (int i = 0; i < Bench.MOST_CALLS / 2; i++) {
                calls.next();
                long answer = calls.answerOf(x);
                if (!numbers.contains(answer) || isPlainAnswer(calls, answer)) continue;
                if (calls.name().equals("act") && x.count(2) != 0) continue;
                seen.computeIfAbsent(answer, none -> new TreeSet<>()).add(calls.name());
            }
        }
        return seen;
    }

    private static boolean isPlainAnswer(AnyCalls calls, long answer) {
        switch (calls.name()) {
            case "act": return answer != 0;
            case "table": return answer != -100000;
            case "soonest": return answer != SteerBench.BAD;
            case "check": return answer != SteerBench.BAD;
            default: return answer == 0 || calls.answersLong() && answer != SteerBench.NO;
        }
    }

    /** Each test and each of the tests' classes that README.md names is there, and no test goes unnamed. */
    private static void everyTest(String readme) throws Exception {
        Path folder = Path.of("src/test/java");
        try (var files = Files.list(folder)) {
            for (Path file : files.toList()) {
                String name = file.getFileName().toString().replace(".java", "");
                if (name.endsWith("Test") || name.endsWith("Sentences") && !name.equals("Sentences"))
                    hold("README.md names " + name, readme.contains("`" + name + "`"));
            }
        }
        Matcher m = Pattern.compile("`([A-Z][a-z]+(?:[A-Z][a-z]+)*)`").matcher(readme.substring(readme.indexOf("## Tests")));
        while (m.find()) hold("there is a class " + m.group(1), m.group(1).equals("BigInteger") || Files.exists(folder.resolve(m.group(1) + ".java")));
        hold("README.md says how to run the tests", readme.contains(".ci/run") && Files.isExecutable(Path.of(".ci/run")));
    }
}
