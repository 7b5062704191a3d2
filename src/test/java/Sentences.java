import java.io.IOException;
import java.util.function.Supplier;
import java.util.function.ToLongFunction;

/** What the tests of the document's sentences share: which sentence is tested, what is due, what is refused. */
final class Sentences {
    static final int NONE = -1, BAD = -2, STATE = -3, FULL = -4;
    static final int NOTHING = -11, OUTSIDE = -12, OTHER = -13, BELOW = -14, NO_NUMBER = -100000;
    static final long NO = -4611686018427387904L;
    static final int FAR = Integer.MAX_VALUE, DEEP = Integer.MIN_VALUE;

    private static Document document;
    private static int promise = 0;
    private static String sentence = "";
    private static int asked = 0;
    private static int askedBefore = -1;
    private static int sentences = 0;
    private static int wrong = 0;
    private static boolean isNamed = false;

    private Sentences() {
    }

    static void begin() throws IOException {
        document = new Document();
    }

    /** All that is asked from here on is asked for this sentence of the document. */
    static void says(int number, String words) {
        seeThatTheLastWasAsked();
        promise = number;
        sentence = words;
        askedBefore = asked;
        isNamed = false;
        sentences++;
        if (!document.has(number, words)) fault("the document does not say so");
    }

    private static void seeThatTheLastWasAsked() {
        if (asked == askedBefore) fault("nothing is asked for it");
    }

    static boolean end() {
        seeThatTheLastWasAsked();
        for (String words : document.unquoted()) {
            wrong++;
            System.out.println("no test quotes these words of " + words);
        }
        System.out.println(sentences + " sentences, " + asked + " answers asked, " + wrong + " wrong");
        return wrong == 0;
    }

    private static void fault(String what) {
        wrong++;
        if (wrong > 100) return;
        if (!isNamed) System.out.println((promise == 0 ? "the document" : "promise " + promise) + " says: " + sentence);
        isNamed = true;
        System.out.println("  " + what);
    }

    /** Of the call that was made last. */
    static void due(long got, long want) {
        asked++;
        if (got != want) fault(Bench.lastCall() + " answered " + got + ", due is " + want);
    }

    static void holds(String what, boolean does) {
        asked++;
        if (!does) fault("does not hold: " + what);
    }

    /** A fraction that is told by what 0 and what 1. */
    static void dueRatio(long above, long below, long wantAbove, long wantBelow) {
        asked++;
        if (above != wantAbove || below != wantBelow)
            fault(Bench.lastCall() + " and its like tell " + above + "/" + below + ", due is " + wantAbove + "/" + wantBelow);
    }

    static void dueTables(Bench x, int m, int n, int... v) {
        int at = 0;
        due(x.machineTold(m, 1), n);
        for (int i = 0; i < n; i++) for (int k = 0; k < n; k++) due(x.table(m, 0, i, k), v[at++]);
        for (int i = 0; i < n; i++) due(x.table(m, 1, i, 0), v[at++]);
        for (int i = 0; i < n; i++) due(x.table(m, 2, i, 0), v[at++]);
        due(x.table(m, 3, 0, 0), v[at]);
    }

    /** Each call on a bench of its own: it answers so, and all that can be seen is as it was. */
    @SafeVarargs
    static void refused(Supplier<Bench> maker, long want, ToLongFunction<Bench>... calls) {
        String before = Snapshot.of(maker.get());
        for (ToLongFunction<Bench> call : calls) {
            Bench x = maker.get();
            due(call.applyAsLong(x), want);
            String text = Bench.lastCall();
            String after = Snapshot.of(x);
            asked++;
            if (!after.equals(before)) fault(text + " was refused and changed this:\n" + before + "to this:\n" + after);
        }
    }
}
