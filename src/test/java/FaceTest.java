import java.lang.reflect.Field;
import java.lang.reflect.Method;
import java.lang.reflect.Modifier;
import java.nio.charset.StandardCharsets;
import java.nio.file.Files;
import java.nio.file.Path;
import java.util.ArrayList;
import java.util.List;
import java.util.Set;
import java.util.TreeSet;

/** "The public face": the class has what the document shows there, word by word, and nothing else. Runs in the project's folder. */
public final class FaceTest {
    private static final String[] FACE = {
        "int machine(int,int,int)", "int set(int,int,int,int,int)", "int series(int,int)", "int side(int,int)",
        "int back(int,int)", "int part(int,int)", "int drop()", "int machineTold(int,int)", "int table(int,int,int,int)",
        "long own(int,int,int)", "long pulse(int,int,int)", "long run(int,int,int,int)", "int like(int,int)",
        "long gain(int,int,int,int,int,int)", "int soonest(int,int,int,int)", "long energy(int,int,int,int)",
        "int write(int)", "long row(int)", "int forge(int,long)", "int check(int)", "int act(int,int,int)",
        "int trace(int)", "int count(int)", "int sheet(int,int,int)", "int cell(int,int,int)",
        "int lay(int,int,int,int)", "int copy(int,int,int,int,int)", "int taken(int,int)"};
    private static int asked = 0;
    private static int wrong = 0;

    private FaceTest() {
    }

    public static void main(String[] args) throws Exception {
        members();
        constants();
        wordByWord(new Document());
        System.out.println(asked + " parts of the face looked at, " + wrong + " not as the document shows them");
        if (wrong != 0) System.exit(1);
    }

    private static void hold(String what, boolean holds) {
        asked++;
        if (!holds) {
            wrong++;
            System.out.println("not so: " + what);
        }
    }

    private static void members() {
        Class<?> face = SteerBench.class;
        hold("the class is public and final", Modifier.isPublic(face.getModifiers()) && Modifier.isFinal(face.getModifiers()));
        hold("it stands under Object and nothing else", face.getSuperclass() == Object.class && face.getInterfaces().length == 0);
        hold("it has no package", face.getPackageName().isEmpty());
        hold("one public constructor", face.getDeclaredConstructors().length == 1 && face.getConstructors().length == 1
            && face.getConstructors()[0].getParameterCount() == 0);
        Set<String> found = new TreeSet<>();
        for (Method m : face.getDeclaredMethods()) {
            if (Modifier.isPrivate(m.getModifiers())) continue;
            hold(m.getName() + " is public", Modifier.isPublic(m.getModifiers()) && !Modifier.isStatic(m.getModifiers()));
            hold(m.getName() + " tells of no exception", m.getExceptionTypes().length == 0);
            found.add(signature(m));
        }
        hold("the methods of the document, " + found, found.equals(new TreeSet<>(List.of(FACE))));
    }

    private static String signature(Method m) {
        List<String> types = new ArrayList<>();
        for (Class<?> type : m.getParameterTypes()) types.add(type.getName());
        return m.getReturnType().getName() + " " + m.getName() + "(" + String.join(",", types) + ")";
    }

    private static void constants() {
        Set<String> found = new TreeSet<>();
        for (Field f : SteerBench.class.getDeclaredFields()) {
            if (Modifier.isPrivate(f.getModifiers())) continue;
            int flags = f.getModifiers();
            hold(f.getName() + " is a constant", Modifier.isPublic(flags) && Modifier.isStatic(flags) && Modifier.isFinal(flags));
            found.add(f.getType().getName() + " " + f.getName());
        }
        hold("the constants of the document, " + found,
            found.equals(new TreeSet<>(List.of("int NONE", "int BAD", "int STATE", "int FULL", "long NO"))));
        hold("NONE is -1", SteerBench.NONE == -1);
        hold("BAD is -2", SteerBench.BAD == -2);
        hold("STATE is -3", SteerBench.STATE == -3);
        hold("FULL is -4", SteerBench.FULL == -4);
        hold("NO is 2 to the 62nd below 0", SteerBench.NO == -4611686018427387904L && SteerBench.NO == -(1L << 62));
    }

    /** Every line of the face stands in the source, and every promise tells a call of the face. */
    private static void wordByWord(Document document) throws Exception {
        if (!document.isHere()) return;
        String source = Files.readString(Path.of("src/main/java/SteerBench.java"), StandardCharsets.UTF_8);
        List<String> face = document.face();
        hold("two lines of constants, a constructor, a method for each other promise", face.size() == 2 + Document.PROMISES);
        for (String line : face) {
            boolean isConstants = line.contains(" static ");
            hold("the source has " + line, source.contains("    " + line + (isConstants ? ";" : " {")));
        }
        for (int p = 1; p <= Document.PROMISES; p++)
            hold("promise " + p + " is of the face: " + document.call(p), face.contains("public " + document.call(p)));
    }
}
