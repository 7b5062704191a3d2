import java.util.ArrayList;
import java.util.List;

/** Promises 1 to 8: MACHINES made, altered, joined, dropped. */
final class MakingSentences {
    private static final int BAD = Sentences.BAD, STATE = Sentences.STATE, FULL = Sentences.FULL;
    private static final int NOTHING = Sentences.NOTHING, NO_NUMBER = Sentences.NO_NUMBER;
    private static final int FAR = Sentences.FAR, DEEP = Sentences.DEEP;
    private static final String NUMBERED = "MACHINES (12 at most, numbered from 0) have a KIND";
    private static final String BY_ITSELF = "A MACHINE stands for itself: what comes later to others does not change it.";
    private static final String FIRST_NAMED = "Refusals, the first that the call's words name; they change nothing: BAD (-2: a number is "
        + "none such or not as told), STATE (-3), FULL (-4); the host's: -11 nothing where something is asked, -12 a place "
        + "outside, -13 a thing of another sort or KIND, -14 a size below 0.";

    private MakingSentences() {
    }

    static void all() {
        newObject();
        lastCall();
        machine();
        machineFull();
        set();
        setRefused();
        seriesTables();
        seriesStates();
        seriesNumbers();
        seriesRefused();
        side();
        sideRefused();
        back();
        backRefused();
        part();
        partRefused();
        drop();
    }

    private static void due(long got, long want) {
        Sentences.due(got, want);
    }

    private static void says(int promise, String sentence) {
        Sentences.says(promise, sentence);
    }

    // ---- promise 1

    private static void newObject() {
        says(1, "No MACHINES, no ROWS.");
        Benches.rich();
        Bench x = new Bench();
        for (int what = 0; what <= 2; what++) due(x.count(what), 0);
        due(x.machineTold(0, 0), BAD);
        due(x.table(0, 3, 0, 0), NO_NUMBER);
        due(x.row(0), Sentences.NO);
        due(x.forge(0, 1), BAD);
        due(x.check(0), BAD);
        due(x.trace(0), Sentences.NONE);
        due(x.drop(), STATE);
        due(x.machine(0, 0, 1), 0);
        due(x.check(0), 0);
        says(1, "SHEETS 0 .. 3 are rows of numbers, or missing (as all are at first): of sort 0 bytes, 1 ints, 2 longs.");
        for (int s = -1; s <= 4; s++) {
            boolean isThere = s >= 0 && s <= 3;
            due(x.cell(s, 0, 0), isThere ? NOTHING : BAD);
            due(x.copy(s, 0, s, 0, 0), isThere ? NOTHING : BAD);
            for (int sort = -1; sort <= 3; sort++) due(x.lay(0, s, sort, 0), isThere && sort >= 0 && sort <= 2 ? NOTHING : BAD);
        }
    }

    private static void lastCall() {
        says(1, "An object is used for at most 512 calls after it has been made; what later calls answer is free.");
        Bench x = new Bench();
        for (int i = 0; i < 255; i++) {
            due(x.machine(i % 2, 3, 4), 0);
            due(x.drop(), 0);
        }
        due(x.machine(1, 3, 2), 0);
        due(x.machineTold(0, 2), 2);
        due(x.calls(), 512);
        Bench y = new Bench();
        for (int i = 0; i < 511; i++) due(y.sheet(i % 4, i % 3, 40), 1);
        due(y.cell(2, 39, 1), 1);
        due(y.calls(), 512);
        Bench z = new Bench();
        z.made(0, 2, 2, 1, 1, -1, 0, 0, 1, 1, 0, 0);
        while (z.calls() < 511) due(z.write(0), 11);
        due(z.row(10), 63);
        due(z.calls(), 512);
    }

    // ---- promise 2

    private static void machine() {
        says(2, "A MACHINE of KIND 0, 1 with n STATES (0 .. 3): its number.");
        for (int kind = -1; kind <= 4; kind++) due(new Bench().machine(kind, 1, 1), kind == 0 || kind == 1 ? 0 : BAD);
        for (int n = -1; n <= 4; n++) due(new Bench().machine(0, n, 1), n >= 0 && n <= 3 ? 0 : BAD);
        for (int n = -1; n <= 4; n++) due(new Bench().machine(1, n, 1), n >= 0 && n <= 3 ? 0 : BAD);
        due(Benches.rich().machine(0, 1, 1), Benches.RICH_COUNT);
        Bench x = new Bench();
        for (int m = 0; m < 8; m++) {
            due(x.machine(m / 4, m % 4, 1 << m % 3), m);
            due(x.machineTold(m, 0), m / 4);
            due(x.machineTold(m, 1), m % 4);
            due(x.machineTold(m, 2), 1 << m % 3);
        }
        says(2, "STATES 0 .. n - 1 (n 0 .. 3), a UNIT u (1, 2 or 4) and TABLES of whole numbers: a (n rows of n), b (n), c (n), d (one); all are 0 at first.");
        for (int unit = -4; unit <= 9; unit++) due(new Bench().machine(0, 1, unit), unit == 1 || unit == 2 || unit == 4 ? 0 : BAD);
        for (int n = 0; n <= 3; n++) {
            Bench y = new Bench();
            y.ofA(0, 3, 1, 1, 1, 1, 1, 1, 1, 1, 1, 1);
            y.drop();
            y.machine(0, n, 1);
            for (int i = 0; i <= 3; i++) {
                for (int k = 0; k <= 3; k++) due(y.table(0, 0, i, k), i < n && k < n ? 0 : NO_NUMBER);
                for (int table = 1; table <= 2; table++) due(y.table(0, table, i, 0), i < n ? 0 : NO_NUMBER);
            }
            due(y.table(0, 3, 0, 0), 0);
        }
        says(2, "0 STEPS, 1 FLOW under STEPS, 2 LOOP under STEPS, 3 PART under LOOP;");
        Bench z = Benches.rich();
        due(z.machineTold(Benches.STEPS_2, 0), 0);
        due(z.machineTold(Benches.FLOW_1, 0), 1);
        due(z.machineTold(Benches.LOOP_2, 0), 2);
        due(z.machineTold(Benches.PART_1, 0), 3);
        due(z.taken(Benches.PART_1, 2), 1);
        due(z.taken(Benches.FLOW_1, 0), 1);
    }

    private static void machineFull() {
        says(2, NUMBERED);
        Bench x = new Bench();
        for (int m = 0; m < 12; m++) due(x.machine(0, m % 4, 1), m);
        due(x.machine(0, 0, 1), FULL);
        due(x.count(0), 12);
        due(x.machineTold(11, 1), 3);
        due(x.machineTold(12, 1), BAD);
        due(x.machineTold(0, 1), 0);
        due(x.machineTold(-1, 1), BAD);
        due(x.drop(), 11);
        due(x.machine(1, 2, 1), 11);
        due(x.machine(1, 2, 1), FULL);
        says(2, "BAD; FULL.");
        Sentences.refused(Benches::rich, BAD, b -> b.machine(-1, 1, 1), b -> b.machine(2, 1, 1), b -> b.machine(3, 1, 1),
            b -> b.machine(FAR, 1, 1), b -> b.machine(DEEP, 1, 1), b -> b.machine(0, -1, 1), b -> b.machine(0, 4, 1),
            b -> b.machine(1, FAR, 1), b -> b.machine(1, DEEP, 1), b -> b.machine(0, 1, 0), b -> b.machine(0, 1, 3),
            b -> b.machine(0, 1, 5), b -> b.machine(0, 1, -1), b -> b.machine(0, 1, FAR), b -> b.machine(0, 1, DEEP));
        Sentences.refused(Benches::richAndFull, FULL, b -> b.machine(0, 0, 1), b -> b.machine(1, 3, 4));
        says(2, FIRST_NAMED);
        Sentences.refused(Benches::richAndFull, BAD, b -> b.machine(2, 0, 1), b -> b.machine(0, 4, 1), b -> b.machine(0, 0, 3));
    }

    // ---- promise 3

    private static void set() {
        says(3, "A number of a TABLE (0 a, 1 b, 2 c, 3 d; i the row, of b and c the place; k the column of a, else it does not matter; of d neither) "
            + "of a MACHINE of KIND 0, 1 becomes v (-3 .. 3): what it was, and 10.");
        for (int kind = 0; kind <= 1; kind++) {
            Bench x = new Bench();
            x.machine(kind, 2, 1);
            int was = 0;
            for (int v = -5; v <= 5; v++) {
                boolean isSmall = v >= -3 && v <= 3;
                due(x.set(0, 0, 0, 1, v), isSmall ? was + 10 : BAD);
                if (isSmall) was = v;
                due(x.table(0, 0, 0, 1), was);
            }
            Sentences.dueTables(x, 0, 2, 0, 3, 0, 0, 0, 0, 0, 0, 0);
            due(x.set(0, 0, 1, 0, -2), 10);
            due(x.set(0, 0, 1, 1, -1), 10);
            due(x.set(0, 1, 1, FAR, 1), 10);
            due(x.set(0, 1, 0, -1, 2), 10);
            due(x.set(0, 2, 0, DEEP, -3), 10);
            due(x.set(0, 2, 1, 2, 3), 10);
            due(x.set(0, 3, -1, 2, 2), 10);
            due(x.set(0, 3, FAR, DEEP, -2), 12);
            Sentences.dueTables(x, 0, 2, 0, 3, -2, -1, 2, 1, -3, 3, -2);
        }
        for (int n = 0; n <= 3; n++) {
            Bench y = new Bench();
            y.machine(0, n, 1);
            for (int i = -1; i <= 3; i++) {
                boolean isPlace = i >= 0 && i < n;
                for (int k = -1; k <= 3; k++) due(y.set(0, 0, i, k, 1), isPlace && k >= 0 && k < n ? 10 : BAD);
                for (int table = 1; table <= 2; table++) due(y.set(0, table, i, -1, 1), isPlace ? 10 : BAD);
                due(y.set(0, 3, i, i, 0), 10);
            }
            due(y.set(0, -1, 0, 0, 1), BAD);
            due(y.set(0, 4, 0, 0, 1), BAD);
        }
    }

    private static void setRefused() {
        says(3, "BAD: also a place that there is not; STATE: another KIND.");
        Sentences.refused(Benches::rich, BAD, b -> b.set(-1, 0, 0, 0, 1), b -> b.set(Benches.RICH_COUNT, 0, 0, 0, 1),
            b -> b.set(FAR, 3, 0, 0, 1), b -> b.set(DEEP, 3, 0, 0, 1), b -> b.set(0, -1, 0, 0, 1), b -> b.set(0, 4, 0, 0, 1),
            b -> b.set(0, 0, 2, 0, 1), b -> b.set(0, 0, 0, 2, 1), b -> b.set(0, 0, -1, 1, 1), b -> b.set(0, 0, 1, -1, 1),
            b -> b.set(0, 1, 2, 0, 1), b -> b.set(0, 2, 2, 0, 1), b -> b.set(0, 1, -1, 0, 1), b -> b.set(0, 2, -1, 0, 1),
            b -> b.set(0, 0, 0, 0, 4), b -> b.set(0, 1, 0, 0, -4), b -> b.set(0, 3, 0, 0, 4), b -> b.set(0, 3, 0, 0, DEEP),
            b -> b.set(Benches.WIRE, 0, 0, 0, 1), b -> b.set(Benches.WIRE, 1, 0, 0, 1), b -> b.set(0, 0, FAR, FAR, 1));
        Sentences.refused(Benches::rich, STATE, b -> b.set(Benches.LOOP_2, 0, 0, 0, 1), b -> b.set(Benches.LOOP_2, 3, 0, 0, 1),
            b -> b.set(Benches.PART_1, 1, 0, 0, 1), b -> b.set(Benches.PART_1, 2, 0, 0, -3));
        says(3, FIRST_NAMED);
        Sentences.refused(Benches::rich, BAD, b -> b.set(Benches.LOOP_2, 0, 2, 0, 1), b -> b.set(Benches.LOOP_2, 4, 0, 0, 1),
            b -> b.set(Benches.PART_1, 1, 1, 0, 1), b -> b.set(Benches.PART_1, 3, 0, 0, 4));
    }

    // ---- promise 4

    private static void seriesTables() {
        says(4, "A LOOP of two: the first one's output is the second one's input; STATES of the first one ahead: a has u times (b of the second one, "
            + "c of the first one) where the second's rows and the first's columns meet, 0 where the first's rows and the second's columns do; b has b "
            + "of the first one, then b of the second one times d of the first; c has d of the second one times c of the first, then c of the second; "
            + "d is the product.");
        Bench x = new Bench();
        x.made(0, 2, 2, 1, -2, 3, -1, 2, -3, 1, -1, 2);
        x.made(0, 1, 2, 2, 3, -2, -3);
        x.made(0, 0, 2, 2);
        due(x.series(0, 1), 3);
        due(x.machineTold(3, 0), 2);
        due(x.machineTold(3, 2), 2);
        Sentences.dueTables(x, 3, 3, 1, -2, 0, 3, -1, 0, 6, -6, 2, 2, -3, 6, -3, 3, -2, -6);
        due(x.series(1, 0), 4);
        Sentences.dueTables(x, 4, 3, 2, 0, 0, -8, 1, -2, 12, 3, -1, 3, -6, 9, -4, 1, -1, -6);
        due(x.series(0, 2), 5);
        Sentences.dueTables(x, 5, 2, 1, -2, 3, -1, 2, -3, 2, -2, 4);
        due(x.series(2, 0), 6);
        Sentences.dueTables(x, 6, 2, 1, -2, 3, -1, 4, -6, 1, -1, 4);
        due(x.series(2, 2), 7);
        Sentences.dueTables(x, 7, 0, 4);
        due(x.series(1, 1), 8);
        Sentences.dueTables(x, 8, 2, 2, 0, -12, 2, 3, -9, 6, -2, 9);
        due(x.series(2, 3), 9);
        Sentences.dueTables(x, 9, 3, 1, -2, 0, 3, -1, 0, 6, -6, 2, 4, -6, 12, -3, 3, -2, -12);
        due(x.series(3, 2), 10);
        Sentences.dueTables(x, 10, 3, 1, -2, 0, 3, -1, 0, 6, -6, 2, 2, -3, 6, -6, 6, -4, -12);
        says(4, BY_ITSELF);
        x.set(1, 0, 0, 0, -1);
        x.set(1, 1, 0, 0, -1);
        x.set(1, 2, 0, 0, -1);
        x.set(1, 3, 0, 0, -1);
        Sentences.dueTables(x, 8, 2, 2, 0, -12, 2, 3, -9, 6, -2, 9);
        Bench y = new Bench();
        y.made(0, 1, 1, 1, 1, 1, 1);
        y.series(0, 0);
        y.series(1, 0);
        y.drop();
        y.machine(0, 1, 2);
        y.set(2, 0, 0, 0, 3);
        Sentences.dueTables(y, 1, 2, 1, 0, 1, 1, 1, 1, 1, 1, 1);
    }

    private static void seriesStates() {
        says(4, "BAD; STATE: a FLOW, or unlike UNITS; FULL: more than 3 STATES, a number beyond -12 .. 12, 12 MACHINES.");
        joinOfStates(true);
        for (int one = 1; one <= 4; one *= 2) {
            for (int two = 1; two <= 4; two *= 2) {
                Bench x = new Bench();
                x.machine(0, 1, one);
                x.machine(0, 1, two);
                due(x.series(0, 1), one == two ? 2 : STATE);
            }
        }
        for (int flows = 0; flows < 4; flows++) {
            Bench x = new Bench();
            x.machine(flows & 1, 1, 1);
            x.machine(flows >> 1, 1, 1);
            due(x.series(0, 1), flows == 0 ? 2 : STATE);
        }
    }

    private static void joinOfStates(boolean isSeries) {
        for (int one = 0; one <= 3; one++) {
            for (int two = 0; two <= 3; two++) {
                Bench x = new Bench();
                x.machine(0, one, 1);
                x.machine(0, two, 1);
                due(isSeries ? x.series(0, 1) : x.side(0, 1), one + two <= 3 ? 2 : FULL);
                due(x.count(0), one + two <= 3 ? 3 : 2);
                if (one + two <= 3) due(x.machineTold(2, 1), one + two);
            }
        }
        Bench y = new Bench();
        for (int m = 0; m < 11; m++) y.machine(0, 1, 1);
        due(isSeries ? y.series(0, 10) : y.side(0, 10), 11);
        due(isSeries ? y.series(0, 10) : y.side(0, 10), FULL);
        due(y.count(0), 12);
    }

    /** Products that are just 12 or -12 fit, those of 14 and 15 from 0 do not: there is none of 13. */
    private static void seriesNumbers() {
        int[][] factors = {{4, 3}, {6, 2}, {12, 1}, {7, 2}, {5, 3}, {8, 2}};
        for (int[] f : factors) {
            for (int sign = -1; sign <= 1; sign += 2) {
                boolean fits = f[0] * f[1] <= 12;
                seriesOfA(f[0], sign * f[1], fits);
                seriesOfB(sign * f[0], f[1], fits);
                seriesOfC(sign * f[0], f[1], fits);
                seriesOfD(f[0], sign * f[1], fits);
            }
        }
        int[][] ofUnit = {{4, 3, 1, 1}, {4, 1, 3, 1}, {4, 2, 2, 0}, {2, 2, 3, 1}, {2, 3, 3, 0}, {1, 3, 3, 1}};
        for (int[] u : ofUnit) {
            for (int sign = -1; sign <= 1; sign += 2) {
                Bench x = new Bench();
                x.made(0, 1, u[0], 0, 0, sign * u[1], 0);
                x.made(0, 1, u[0], 0, u[2], 0, 0);
                due(x.series(0, 1), u[3] == 1 ? 2 : FULL);
                due(x.table(2, 0, 1, 0), u[3] == 1 ? sign * u[0] * u[1] * u[2] : NO_NUMBER);
            }
        }
        Sentences.refused(MakingSentences::greatNumbers, FULL, b -> b.series(7, 5), b -> b.series(4, 5), b -> b.series(6, 4), b -> b.series(4, 8));
    }

    /** Number 4: d 7; 5: b 2; 6: c 2; 7: c 7; 8: d 2. So 14 can come up in each TABLE, once in each. */
    private static Bench greatNumbers() {
        Bench x = new Bench();
        int seven = Benches.wire(x, 1, 7);
        int one = x.made(0, 1, 1, 0, 2, 1, 0);
        x.made(0, 1, 1, 0, 0, 2, 0);
        x.series(one, seven);
        x.made(0, 0, 1, 2);
        if (seven != 4 || x.count(0) != 9) throw new IllegalStateException("other numbers than told");
        return x;
    }

    private static void seriesOfA(int wire, int b, boolean fits) {
        Bench x = new Bench();
        int one = x.made(0, 1, 1, 0, 0, 1, 0);
        int first = x.series(one, Benches.wire(x, 1, wire));
        int second = x.made(0, 1, 1, 0, b, 0, 0);
        dueLast(x, x.series(first, second), 0, wire * b, fits);
    }

    private static void seriesOfB(int wire, int b, boolean fits) {
        Bench x = new Bench();
        int first = Benches.wire(x, 2, wire);
        dueLast(x, x.series(first, x.made(0, 1, 2, 0, b, 0, 0)), 1, wire * b, fits);
    }

    private static void seriesOfC(int wire, int c, boolean fits) {
        Bench x = new Bench();
        int second = Benches.wire(x, 2, wire);
        dueLast(x, x.series(x.made(0, 1, 2, 0, 0, c, 0), second), 2, wire * c, fits);
    }

    private static void seriesOfD(int wire, int d, boolean fits) {
        Bench x = new Bench();
        int first = Benches.wire(x, 4, wire);
        dueLast(x, x.series(first, x.made(0, 0, 4, d)), 3, wire * d, fits);
    }

    /** The number that is greatest stands in the last row, in the first column. */
    private static void dueLast(Bench x, int got, int table, int v, boolean fits) {
        if (!fits) {
            due(got, FULL);
            return;
        }
        due(got, x.count(0) - 1);
        due(x.table(got, table, x.machineTold(got, 1) - 1, 0), v);
    }

    private static void seriesRefused() {
        says(4, FIRST_NAMED);
        joinRefused(Bench::series);
    }

    private interface Join {
        int of(Bench x, int first, int second);
    }

    private static void joinRefused(Join join) {
        Sentences.refused(Benches::rich, BAD, b -> join.of(b, -1, 0), b -> join.of(b, 0, -1), b -> join.of(b, Benches.RICH_COUNT, 0),
            b -> join.of(b, 0, Benches.RICH_COUNT), b -> join.of(b, FAR, 0), b -> join.of(b, 0, DEEP),
            b -> join.of(b, Benches.FLOW_1, Benches.RICH_COUNT), b -> join.of(b, -1, Benches.FLOW_1));
        Sentences.refused(Benches::rich, STATE, b -> join.of(b, Benches.FLOW_1, Benches.WIRE), b -> join.of(b, Benches.WIRE, Benches.FLOW_1),
            b -> join.of(b, Benches.FLOW_0, Benches.FLOW_0), b -> join.of(b, Benches.OTHER_UNIT, Benches.WIRE),
            b -> join.of(b, Benches.WIRE, Benches.OTHER_UNIT), b -> join.of(b, Benches.FLOW_1, Benches.STEPS_3),
            b -> join.of(b, Benches.STEPS_3, Benches.FLOW_1), b -> join.of(b, Benches.OTHER_UNIT, Benches.STEPS_3),
            b -> join.of(b, Benches.FLOW_1, Benches.OTHER_UNIT));
        Sentences.refused(Benches::rich, FULL, b -> join.of(b, Benches.STEPS_3, Benches.NO_ENERGY), b -> join.of(b, Benches.STEPS_2, Benches.STEPS_2),
            b -> join.of(b, Benches.LOOP_2, Benches.STEPS_2), b -> join.of(b, Benches.PART_1, Benches.STEPS_3));
        Sentences.refused(Benches::richAndFull, FULL, b -> join.of(b, 0, Benches.WIRE), b -> join.of(b, 11, 10), b -> join.of(b, 0, Benches.STEPS_3));
        Sentences.refused(Benches::richAndFull, BAD, b -> join.of(b, 12, 0), b -> join.of(b, 0, 12), b -> join.of(b, Benches.FLOW_1, -1));
        Sentences.refused(Benches::richAndFull, STATE, b -> join.of(b, Benches.FLOW_1, 0), b -> join.of(b, 0, Benches.OTHER_UNIT));
    }

    // ---- promise 5

    private static void side() {
        says(5, "A LOOP of two that have one input, their outputs added up: STATES of the first one ahead, no other numbers than theirs, d is the sum.");
        Bench x = new Bench();
        x.made(0, 2, 2, 1, -2, 3, -1, 2, -3, 1, -1, 2);
        x.made(0, 1, 2, 2, 3, -2, -3);
        x.made(0, 0, 2, 2);
        due(x.side(0, 1), 3);
        due(x.machineTold(3, 0), 2);
        due(x.machineTold(3, 2), 2);
        Sentences.dueTables(x, 3, 3, 1, -2, 0, 3, -1, 0, 0, 0, 2, 2, -3, 3, 1, -1, -2, -1);
        due(x.side(1, 0), 4);
        Sentences.dueTables(x, 4, 3, 2, 0, 0, 0, 1, -2, 0, 3, -1, 3, 2, -3, -2, 1, -1, -1);
        due(x.side(2, 0), 5);
        Sentences.dueTables(x, 5, 2, 1, -2, 3, -1, 2, -3, 1, -1, 4);
        due(x.side(2, 2), 6);
        Sentences.dueTables(x, 6, 0, 4);
        due(x.side(1, 1), 7);
        Sentences.dueTables(x, 7, 2, 2, 0, 0, 2, 3, 3, -2, -2, -6);
        says(5, BY_ITSELF);
        x.set(1, 0, 0, 0, -1);
        x.set(1, 3, 0, 0, -1);
        Sentences.dueTables(x, 7, 2, 2, 0, 0, 2, 3, 3, -2, -2, -6);
    }

    private static void sideRefused() {
        says(5, "BAD, STATE, FULL as of series().");
        joinOfStates(false);
        int[][] sums = {{9, 2, 1}, {9, 3, 1}, {10, 3, 0}, {12, 0, 1}, {11, 1, 1}, {12, 1, 0}};
        for (int[] s : sums) {
            for (int sign = -1; sign <= 1; sign += 2) {
                Bench x = new Bench();
                int first = Benches.wire(x, 1, sign * s[0]);
                dueLast(x, x.side(first, x.made(0, 0, 1, sign * s[1])), 3, sign * (s[0] + s[1]), s[2] == 1);
            }
        }
        Sentences.refused(MakingSentences::twelve, FULL, b -> b.side(0, 7), b -> b.side(7, 0));
        joinRefused(Bench::side);
    }

    /** d 1 at number 0, d 12 at number 7. */
    private static Bench twelve() {
        Bench x = new Bench();
        x.made(0, 0, 1, 1);
        int last = Benches.wire(x, 1, 12);
        if (last != 7) throw new IllegalStateException("the wire of 12 is number " + last);
        return x;
    }

    // ---- promise 6

    private static void back() {
        says(6, "A LOOP of one whose output, times sign (1, -1), is added to its input: a has sign times u times (b, c) more.");
        Bench x = new Bench();
        x.made(0, 2, 2, 1, -2, 3, -1, 2, -3, 1, -1, 0);
        due(x.back(0, 1), 1);
        due(x.machineTold(1, 0), 2);
        due(x.machineTold(1, 2), 2);
        Sentences.dueTables(x, 1, 2, 5, -6, -3, 5, 2, -3, 1, -1, 0);
        due(x.back(0, -1), 2);
        Sentences.dueTables(x, 2, 2, -3, 2, 9, -7, 2, -3, 1, -1, 0);
        x.machine(0, 0, 4);
        due(x.back(3, -1), 4);
        Sentences.dueTables(x, 4, 0, 0);
        for (int sign = -3; sign <= 3; sign++) due(x.back(3, sign), sign == 1 ? 6 : sign == -1 ? 5 : BAD);
        x.made(0, 3, 1, 1, 2, 3, -1, -2, -3, 0, 1, 0, 1, -2, 3, 3, -1, 2, 0);
        due(x.back(7, -1), 8);
        Sentences.dueTables(x, 8, 3, -2, 3, 1, 5, -4, 1, -9, 4, -6, 1, -2, 3, 3, -1, 2, 0);
        says(6, BY_ITSELF);
        x.set(0, 0, 0, 0, 3);
        x.set(0, 1, 0, 0, 3);
        Sentences.dueTables(x, 1, 2, 5, -6, -3, 5, 2, -3, 1, -1, 0);
    }

    private static void backRefused() {
        says(6, "BAD; STATE: a FLOW, or d is not 0; FULL.");
        for (int d = -3; d <= 3; d++) {
            Bench x = new Bench();
            x.made(0, 1, 1, 0, 1, 1, d);
            due(x.back(0, 1), d == 0 ? 1 : STATE);
        }
        backOfNumbers();
        Bench y = new Bench();
        for (int m = 0; m < 11; m++) y.machine(0, 1, 1);
        due(y.back(0, 1), 11);
        due(y.back(0, 1), FULL);
        Sentences.refused(Benches::rich, BAD, b -> b.back(-1, 1), b -> b.back(Benches.RICH_COUNT, 1), b -> b.back(FAR, 1), b -> b.back(DEEP, -1),
            b -> b.back(0, 0), b -> b.back(0, 2), b -> b.back(0, -2), b -> b.back(0, FAR), b -> b.back(0, DEEP));
        Sentences.refused(Benches::rich, STATE, b -> b.back(Benches.FLOW_1, 1), b -> b.back(Benches.FLOW_0, 1), b -> b.back(Benches.WIRE, 1),
            b -> b.back(Benches.WIRE, -1), b -> b.back(Benches.STEPS_3, 1));
        Sentences.refused(MakingSentences::thirteen, FULL, b -> b.back(0, 1), b -> b.back(1, -1));
        Sentences.refused(Benches::richAndFull, FULL, b -> b.back(0, 1), b -> b.back(Benches.PART_1, -1));
        says(6, FIRST_NAMED);
        Sentences.refused(Benches::richAndFull, BAD, b -> b.back(12, 1), b -> b.back(0, 0), b -> b.back(Benches.FLOW_1, 0), b -> b.back(Benches.WIRE, 2));
        Sentences.refused(Benches::richAndFull, STATE, b -> b.back(Benches.FLOW_1, 1), b -> b.back(Benches.WIRE, 1));
        Sentences.refused(MakingSentences::thirteen, STATE, b -> b.back(2, 1));
    }

    /** 12 from 0 fits, 13 does not, on and beside the diagonal. */
    private static void backOfNumbers() {
        for (int column = 0; column <= 1; column++) {
            for (int a = -2; a <= 2; a++) {
                for (int sign = -1; sign <= 1; sign += 2) {
                    Bench x = new Bench();
                    x.machine(0, 2, 2);
                    x.set(0, 0, 0, column, a);
                    x.set(0, 1, 0, 0, 2);
                    x.set(0, 2, column, 0, 3);
                    int want = a + sign * 12;
                    boolean fits = want >= -12 && want <= 12;
                    due(x.back(0, sign), fits ? 1 : FULL);
                    due(x.count(0), fits ? 2 : 1);
                    if (fits) due(x.table(1, 0, 0, column), want);
                }
            }
        }
    }

    /** a 1 and 12 more; a -1 and 12 less; the first with a d. */
    private static Bench thirteen() {
        Bench x = new Bench();
        x.made(0, 1, 2, 1, 2, 3, 0);
        x.made(0, 1, 4, -1, 3, 1, 0);
        x.made(0, 1, 2, 1, 2, 3, -1);
        return x;
    }

    // ---- promise 7

    private static void part() {
        says(7, "A PART of a MACHINE that is no FLOW: of its STATES those of a set (bits), in their order, the other ones left out.");
        int[] a = {-3, -2, -1, 0, 1, 2, 3, -1, 1}, b = {1, 2, 3}, c = {-3, -2, -1};
        for (int bits = 0; bits <= 7; bits++) {
            Bench x = new Bench();
            x.made(0, 3, 4, -3, -2, -1, 0, 1, 2, 3, -1, 1, 1, 2, 3, -3, -2, -1, 2);
            due(x.part(0, bits), 1);
            due(x.machineTold(1, 0), 3);
            due(x.machineTold(1, 2), 4);
            List<Integer> of = new ArrayList<>();
            for (int i = 0; i < 3; i++) if ((bits & 1 << i) != 0) of.add(i);
            due(x.machineTold(1, 1), of.size());
            for (int i = 0; i < of.size(); i++) {
                for (int k = 0; k < of.size(); k++) due(x.table(1, 0, i, k), a[3 * of.get(i) + of.get(k)]);
                due(x.table(1, 1, i, 0), b[of.get(i)]);
                due(x.table(1, 2, i, 0), c[of.get(i)]);
            }
            due(x.table(1, 3, 0, 0), 2);
        }
        Bench y = Benches.rich();
        due(y.part(Benches.LOOP_2, 2), Benches.RICH_COUNT);
        Sentences.dueTables(y, Benches.RICH_COUNT, 1, 0, 1, 0, 0);
        due(y.part(Benches.PART_1, 1), Benches.RICH_COUNT + 1);
        Sentences.dueTables(y, Benches.RICH_COUNT + 1, 1, 1, 0, 1, 0);
        says(7, BY_ITSELF);
        y.set(Benches.STEPS_2, 0, 0, 0, 3);
        y.set(Benches.STEPS_2, 3, 0, 0, 3);
        Sentences.dueTables(y, Benches.PART_1, 1, 1, 0, 1, 0);
    }

    private static void partRefused() {
        says(7, "BAD: also bits of others; STATE; FULL.");
        for (int n = 0; n <= 3; n++) {
            for (int bits = -1; bits <= 9; bits++) {
                Bench x = new Bench();
                x.machine(0, n, 1);
                due(x.part(0, bits), bits >= 0 && bits < 1 << n ? 1 : BAD);
            }
        }
        Bench y = new Bench();
        for (int m = 0; m < 11; m++) y.machine(0, 1, 1);
        due(y.part(0, 1), 11);
        due(y.part(0, 1), FULL);
        Sentences.refused(Benches::rich, BAD, b -> b.part(-1, 0), b -> b.part(Benches.RICH_COUNT, 0), b -> b.part(FAR, 0), b -> b.part(DEEP, 0),
            b -> b.part(0, 4), b -> b.part(0, 5), b -> b.part(0, -1), b -> b.part(0, FAR), b -> b.part(0, DEEP), b -> b.part(Benches.STEPS_3, 8),
            b -> b.part(Benches.WIRE, 1), b -> b.part(Benches.PART_1, 2), b -> b.part(0, 1 << 30));
        Sentences.refused(Benches::rich, STATE, b -> b.part(Benches.FLOW_1, 0), b -> b.part(Benches.FLOW_1, 1), b -> b.part(Benches.FLOW_0, 0));
        Sentences.refused(Benches::richAndFull, FULL, b -> b.part(0, 0), b -> b.part(0, 3), b -> b.part(11, 0));
        says(7, FIRST_NAMED);
        Sentences.refused(Benches::rich, BAD, b -> b.part(Benches.FLOW_1, 2), b -> b.part(Benches.FLOW_0, 1));
        Sentences.refused(Benches::richAndFull, BAD, b -> b.part(12, 0), b -> b.part(0, 4), b -> b.part(Benches.FLOW_1, 2));
        Sentences.refused(Benches::richAndFull, STATE, b -> b.part(Benches.FLOW_1, 1));
    }

    // ---- promise 8

    private static void drop() {
        says(8, "The MACHINE that came last goes: how many there are.");
        Bench x = new Bench();
        for (int m = 0; m < 12; m++) x.made(0, 0, 1, m % 4);
        for (int left = 11; left >= 0; left--) {
            due(x.drop(), left);
            due(x.count(0), left);
            due(x.table(left, 3, 0, 0), NO_NUMBER);
            if (left > 0) due(x.table(left - 1, 3, 0, 0), (left - 1) % 4);
        }
        due(x.machine(0, 0, 1), 0);
        due(x.table(0, 3, 0, 0), 0);
        Bench y = Benches.rich();
        due(y.drop(), Benches.RICH_COUNT - 1);
        due(y.count(1), 11);
        due(y.row(0), 2);
        due(y.count(2), 13);
        due(y.copy(1, 0, 1, 0, 9), 9);
        says(8, "STATE: there is none.");
        Sentences.refused(Bench::new, STATE, Bench::drop);
        Sentences.refused(Benches::richWithoutMachines, STATE, Bench::drop, b -> {
            b.drop();
            return b.drop();
        });
        Bench z = new Bench();
        z.machine(0, 1, 1);
        due(z.drop(), 0);
        due(z.drop(), STATE);
        due(z.drop(), STATE);
        due(z.machine(0, 1, 1), 0);
        due(z.drop(), 0);
    }
}
