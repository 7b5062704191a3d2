import java.lang.reflect.Member;
import java.lang.reflect.Modifier;
import java.nio.charset.StandardCharsets;
import java.nio.file.Files;
import java.nio.file.Path;
import java.util.ArrayList;
import java.util.List;
import java.util.Set;
import java.util.TreeSet;
import java.util.regex.Matcher;
import java.util.regex.Pattern;

/** The public face, and what of the language's rules can be seen in the source. Runs in the project's folder. */
public final class RulesTest {
    private static int wrong = 0;

    private static final String[] FACE = {
        "int machine(int,int,int)", "int set(int,int,int,int,int)", "int series(int,int)", "int side(int,int)",
        "int back(int,int)", "int part(int,int)", "int drop()", "int machineTold(int,int)", "int table(int,int,int,int)",
        "long own(int,int,int)", "long pulse(int,int,int)", "long run(int,int,int,int)", "int like(int,int)",
        "long gain(int,int,int,int,int,int)", "int soonest(int,int,int,int)", "long energy(int,int,int,int)",
        "int write(int)", "long row(int)", "int forge(int,long)", "int check(int)", "int act(int,int,int)",
        "int trace(int)", "int count(int)", "int sheet(int,int,int)", "int cell(int,int,int)",
        "int lay(int,int,int,int)", "int copy(int,int,int,int,int)", "int taken(int,int)"};

    private static void hold(String what, boolean holds) {
        if (!holds) {
            wrong++;
            System.out.println("not so: " + what);
        }
    }

    public static void main(String[] args) throws Exception {
        face();
        String source = Files.readString(Path.of("src/main/java/SteerBench.java"), StandardCharsets.ISO_8859_1);
        String code = source.replaceAll("(?s)/\\*.*?\\*/", "").replaceAll("//[^\n]*", "");
        words(code);
        names(code);
        sizes(code);
        System.out.println(wrong == 0 ? "the rules that can be seen hold" : wrong + " rules are broken");
        if (wrong != 0) System.exit(1);
    }

    private static void face() {
        Class<?> face = SteerBench.class;
        hold("public and final", Modifier.isPublic(face.getModifiers()) && Modifier.isFinal(face.getModifiers()));
        hold("one public constructor", face.getDeclaredConstructors().length == 1 && face.getConstructors().length == 1);
        Set<String> found = new TreeSet<>();
        for (java.lang.reflect.Method m : face.getDeclaredMethods()) {
            if (Modifier.isPrivate(m.getModifiers())) continue;
            hold(m.getName() + " is public", Modifier.isPublic(m.getModifiers()) && !Modifier.isStatic(m.getModifiers()));
            List<String> types = new ArrayList<>();
            for (Class<?> type : m.getParameterTypes()) types.add(type.getName());
            found.add(m.getReturnType().getName() + " " + m.getName() + "(" + String.join(",", types) + ")");
        }
        hold("the methods of the document, " + found, found.equals(new TreeSet<>(List.of(FACE))));
        Set<String> constants = new TreeSet<>();
        for (java.lang.reflect.Field f : face.getDeclaredFields())
            if (!Modifier.isPrivate(f.getModifiers())) constants.add(f.getType().getName() + " " + f.getName());
        hold("the constants of the document, " + constants,
            constants.equals(new TreeSet<>(List.of("int NONE", "int BAD", "int STATE", "int FULL", "long NO"))));
        hold("their values", SteerBench.NONE == -1 && SteerBench.BAD == -2 && SteerBench.STATE == -3
            && SteerBench.FULL == -4 && SteerBench.NO == -4611686018427387904L);
        List<Class<?>> all = new ArrayList<>(List.of(face.getDeclaredClasses()));
        hold("twelve classes at most", all.size() + 1 <= 12);
        all.add(face);
        for (Class<?> c : all) insideOf(c, c == face);
    }

    private static void insideOf(Class<?> c, boolean isFace) {
        int flags = c.getModifiers();
        hold(c + " is static and not public", isFace || Modifier.isStatic(flags) && !Modifier.isPublic(flags));
        int fields = 0;
        for (java.lang.reflect.Field f : c.getDeclaredFields()) {
            if (isStatic(f)) hold(f + " is final", Modifier.isFinal(f.getModifiers()));
            else fields++;
        }
        hold(c + " has twenty fields at most", fields <= 20);
        for (java.lang.reflect.Method m : c.getDeclaredMethods())
            hold(m + " has seven parameters at most", m.getParameterCount() <= 7);
    }

    private static boolean isStatic(Member member) {
        return Modifier.isStatic(member.getModifiers());
    }

    private static void words(String code) {
        String[] banned = {"throw", "throws", "try", "catch", "finally", "synchronized", "assert", "import", "package",
            "protected", "hashCode", "toString", "equals", "Object", "Thread", "native", "volatile"};
        for (String word : banned) hold("without " + word, !Pattern.compile("\\b" + word + "\\b").matcher(code).find());
        hold("of System arraycopy alone", !Pattern.compile("\\bSystem\\.(?!arraycopy\\()").matcher(code).find());
        hold("without lambdas and method references", !code.contains("->") && !code.contains("::"));
        hold("without static blocks", !Pattern.compile("static\\s*\\{").matcher(code).find());
        hold("without loops that have no end", !Pattern.compile("while\\s*\\(\\s*true|for\\s*\\(\\s*;\\s*;").matcher(code).find());
        hold("Math, Integer, Long by their plain functions", !Pattern.compile("(Math|Integer|Long)\\.\\w*Exact").matcher(code).find());
        hold("characters 0 to 127", code.chars().allMatch(c -> c < 128));
    }

    private static void names(String code) {
        Set<String> open = new TreeSet<>();
        for (java.lang.reflect.Method m : SteerBench.class.getMethods()) open.add(m.getName());
        Matcher m = Pattern.compile("(public )?(?:private |static |final )*(?:int|long|boolean|void|\\w+\\[?\\]?) (\\w+)\\([^;]*?\\) \\{").matcher(code);
        while (m.find()) {
            String name = m.group(2);
            hold(name + " is no public name", m.group(1) != null || !open.contains(name));
        }
    }

    private static void sizes(String code) {
        String[] lines = code.split("\n");
        for (int i = 0; i < lines.length; i++) {
            Matcher start = Pattern.compile("^( +)\\w[\\w\\[\\] ]* (\\w+)\\(.*\\) \\{$").matcher(lines[i]);
            if (!start.find() || start.group(2).matches("if|for|while|switch")) continue;
            int end = i;
            while (end < lines.length && !lines[end].equals(start.group(1) + "}")) end++;
            hold(start.group(2) + " has sixty lines at most", end - i <= 60);
        }
    }
}
