/** A steersman's bench: exact outputs, ratios, gains and energies of machines of few states. */
public final class SteerBench {
    public static final int NONE = -1, BAD = -2, STATE = -3, FULL = -4;
    public static final long NO = -4611686018427387904L;

    private static final int NOTHING = -11, OUTSIDE = -12, OTHER_SORT = -13, BELOW_ZERO = -14;
    private static final int NO_NUMBER = -100000;

    private static final int MOST_MACHINES = 12, MOST_STATES = 3;
    private static final int MOST_SET = 3, MOST_JOINED = 12;
    private static final int MOST_ROWS = 11, MOST_KEPT = 40;
    private static final int MOST_PULSE = 8, MOST_TICK = 5, INPUT_BASE = 7;
    private static final int MOST_ROOT_NUMBER = 100, MOST_BEGINNING = 9;
    private static final int SHEETS = 4, SORTS = 3, MOST_ITEMS = 40, BYTES = 0;
    private static final long MOST_FORGED = 1000000000L;

    private static final int STEPS_GOES = 10, STEPS_LEADS = 11, STEPS_SHOWS = 12;
    private static final int FLOW_GOES = 20, LOOP_LEADS = 30, LOOP_SHOWS = 31;
    private static final int PART_GOES = 40, PART_SHOWS = 41;

    private final Steps[] machines = new Steps[MOST_MACHINES];
    private int machineCount = 0;
    private final long[] rows = new long[MOST_ROWS];
    private final long[] dueRows = new long[MOST_ROWS];
    private int rowCount = 0;
    private final Trace latest = new Trace();
    private final Sheet[] sheets = new Sheet[SHEETS];
    private final Look look = new Look();
    private final Look otherLook = new Look();
    private final Energy energies = new Energy();
    private final Fraction answer = new Fraction();

    public SteerBench() {
    }

    // ---- machines made, altered, joined

    public int machine(int kind, int n, int unit) {
        boolean isUnit = unit == 1 || unit == 2 || unit == 4;
        if (!isWithin(kind, 0, 1) || !isWithin(n, 0, MOST_STATES) || !isUnit) {
            return BAD;
        }
        if (isFull()) {
            return FULL;
        }
        return kept(kind == 1 ? new Flow(machineCount, n, unit) : new Steps(machineCount, n, unit));
    }

    public int set(int machine, int table, int i, int k, int v) {
        Steps m = machineAt(machine);
        int place = placeIn(m, table, i, k);
        if (m == null || place < 0 || !isWithin(v, -MOST_SET, MOST_SET)) {
            return BAD;
        }
        if (m instanceof Loop) {
            return STATE;
        }
        int[] numbers = m.numbersOf(table);
        int was = numbers[place];
        numbers[place] = v;
        return was + 10;
    }

    public int series(int first, int second) {
        return joined(first, second, true);
    }

    public int side(int first, int second) {
        return joined(first, second, false);
    }

    public int back(int machine, int sign) {
        Steps m = machineAt(machine);
        if (m == null || (sign != 1 && sign != -1)) {
            return BAD;
        }
        if (m instanceof Flow || m.d[0] != 0) {
            return STATE;
        }
        if (isFull()) {
            return FULL;
        }
        Loop loop = new Loop(machineCount, m.states, m.unit);
        for (int i = 0; i < m.states; i++) {
            for (int k = 0; k < m.states; k++) {
                int place = MOST_STATES * i + k;
                loop.a[place] = m.a[place] + sign * m.unit * m.b[i] * m.c[k];
            }
            loop.b[i] = m.b[i];
            loop.c[i] = m.c[i];
        }
        return keptIfSmall(loop);
    }

    public int part(int machine, int states) {
        Steps m = machineAt(machine);
        if (m == null || !isWithin(states, 0, (1 << m.states) - 1)) {
            return BAD;
        }
        if (m instanceof Flow) {
            return STATE;
        }
        if (isFull()) {
            return FULL;
        }
        Part part = new Part(machineCount, Integer.bitCount(states), m.unit);
        int row = 0;
        for (int i = 0; i < m.states; i++) {
            if ((states >> i & 1) == 1 && row < MOST_STATES) {
                fillRow(part, row, m, i, states);
                row++;
            }
        }
        part.d[0] = m.d[0];
        return kept(part);
    }

    public int drop() {
        if (machineCount <= 0) {
            return STATE;
        }
        machineCount--;
        machines[machineCount] = null;
        return machineCount;
    }

    // ---- what machines tell

    public int machineTold(int machine, int what) {
        Steps m = machineAt(machine);
        if (m == null) {
            return BAD;
        }
        look.at(m);
        energies.at(m);
        switch (what) {
            case 0: return m.kind();
            case 1: return m.states;
            case 2: return m.unit;
            case 3: return look.isSteady() ? 1 : 0;
            case 4: return look.reached();
            case 5: return look.seen();
            case 6: return look.least();
            case 7: return energies.isThere ? 1 : 0;
            default: return BAD;
        }
    }

    public int table(int machine, int table, int i, int k) {
        Steps m = machineAt(machine);
        int place = placeIn(m, table, i, k);
        if (m == null || place < 0) {
            return NO_NUMBER;
        }
        return m.numbersOf(table)[place];
    }

    public long own(int machine, int which, int i) {
        Steps m = machineAt(machine);
        if (m == null || !isWithin(which, 0, 1) || !isWithin(i, 0, m.states)) {
            return NO;
        }
        look.at(m);
        return which == 0 ? look.own[i] : look.above(i);
    }

    public long pulse(int machine, int k, int what) {
        Steps m = machineAt(machine);
        if (m == null || !isWithin(k, 0, MOST_PULSE) || !isWithin(what, 0, 1)) {
            return NO;
        }
        look.at(m);
        look.pulseInto(answer, k);
        return answer.told(what);
    }

    public long run(int machine, int t, int inputs, int what) {
        Steps m = machineAt(machine);
        if (m == null || m instanceof Flow || !isWithin(t, 0, MOST_TICK) || !isWithin(what, 0, 1)) {
            return NO;
        }
        if (!isWithin(inputs, 0, (int) power(INPUT_BASE, t + 1) - 1)) {
            return NO;
        }
        look.at(m);
        look.outputInto(answer, t, inputs);
        return answer.told(what);
    }

    public int like(int a, int b) {
        Steps one = machineAt(a);
        Steps two = machineAt(b);
        if (one == null || two == null) {
            return BAD;
        }
        if (one instanceof Flow != two instanceof Flow) {
            return 0;
        }
        look.at(one);
        otherLook.at(two);
        return look.pulsesAreAlike(otherLook) ? 1 : 0;
    }

    public long gain(int machine, int p0, int p1, int p2, int i, int what) {
        Steps m = machineAt(machine);
        if (m == null || !isWithin(i, 0, m.states - 1) || !isWithin(what, 0, 1)) {
            return NO;
        }
        if (!areWithin(m.states, p0, p1, p2, MOST_ROOT_NUMBER)) {
            return NO;
        }
        look.at(m);
        if (look.reached() != m.states) {
            return NO;
        }
        look.gainInto(answer, p0, p1, p2, i);
        return answer.told(what);
    }

    public int soonest(int machine, int x0, int x1, int x2) {
        Steps m = machineAt(machine);
        if (m == null || m instanceof Flow || !areWithin(m.states, x0, x1, x2, MOST_BEGINNING)) {
            return BAD;
        }
        look.at(m);
        return look.soonestRest(x0, x1, x2);
    }

    public long energy(int machine, int i, int k, int what) {
        Steps m = machineAt(machine);
        if (m == null || !isWithin(i, 0, m.states - 1) || !isWithin(k, 0, m.states - 1)) {
            return NO;
        }
        energies.at(m);
        if (!energies.isThere || !isWithin(what, 0, 1)) {
            return NO;
        }
        energies.numberInto(answer, i + k);
        return answer.told(what);
    }

    // ---- the rows of a proof

    public int write(int machine) {
        Steps m = machineAt(machine);
        if (m == null) {
            return BAD;
        }
        energies.at(m);
        if (!energies.isThere) {
            return STATE;
        }
        rowCount = proofInto(rows, m);
        return rowCount;
    }

    public long row(int i) {
        return isWithin(i, 0, rowCount - 1) ? rows[i] : NO;
    }

    public int forge(int i, long v) {
        if (!isWithin(i, 0, rowCount - 1) || v < -MOST_FORGED || v > MOST_FORGED) {
            return BAD;
        }
        rows[i] = v;
        return 1;
    }

    public int check(int machine) {
        Steps m = machineAt(machine);
        if (m == null) {
            return BAD;
        }
        energies.at(m);
        if (!energies.isThere) {
            return 0;
        }
        int dueCount = proofInto(dueRows, m);
        int both = Math.min(dueCount, rowCount);
        for (int i = 0; i < both; i++) {
            if (rows[i] != dueRows[i]) {
                return i;
            }
        }
        if (dueCount != rowCount) {
            return both;
        }
        return energies.isAboveZero() ? NONE : STATE;
    }

    // ---- acts and counts

    public int act(int machine, int act, int x) {
        latest.ran = 0;
        Steps m = machineAt(machine);
        if (m == null) {
            return 0;
        }
        switch (act) {
            case 0: return m.goes(x, latest);
            case 1: return m.leads(x, latest);
            case 2: return m.shows(x, latest);
            default: return 0;
        }
    }

    public int trace(int i) {
        return isWithin(i, 0, Math.min(latest.ran, MOST_KEPT) - 1) ? latest.kept[i] : NONE;
    }

    public int count(int what) {
        switch (what) {
            case 0: return machineCount;
            case 1: return rowCount;
            case 2: return latest.ran;
            default: return BAD;
        }
    }

    // ---- sheets

    public int sheet(int sheet, int sort, int n) {
        if (!isSheet(sheet) || !isWithin(sort, -1, SORTS - 1)) {
            return BAD;
        }
        if (sort == -1) {
            sheets[sheet] = null;
            return 1;
        }
        if (n > MOST_ITEMS) {
            return BAD;
        }
        if (n < 0) {
            return BELOW_ZERO;
        }
        sheets[sheet] = new Sheet(sort, n);
        return 1;
    }

    public int cell(int sheet, int i, int v) {
        if (!isSheet(sheet)) {
            return BAD;
        }
        Sheet s = sheets[sheet];
        if (s == null) {
            return NOTHING;
        }
        if (!isWithin(i, 0, s.items.length - 1)) {
            return OUTSIDE;
        }
        s.items[i] = s.sort == BYTES ? (byte) v : v;
        return 1;
    }

    public int lay(int machine, int sheet, int sort, int i) {
        Steps m = machineAt(machine);
        if (m == null || !isSheet(sheet) || !isWithin(sort, 0, SORTS - 1)) {
            return BAD;
        }
        if (m instanceof Loop) {
            return STATE;
        }
        Sheet s = sheets[sheet];
        if (s == null) {
            return NOTHING;
        }
        if (s.sort != sort) {
            return OTHER_SORT;
        }
        if (m.states == 0) {
            return 1;
        }
        int n = m.states * m.states;
        if (!s.has(i, n)) {
            return OUTSIDE;
        }
        for (int j = i; j < i + n; j++) {
            if (s.items[j] < -MOST_SET || s.items[j] > MOST_SET) {
                return BAD;
            }
        }
        for (int j = 0; j < n; j++) {
            m.a[MOST_STATES * (j / m.states) + j % m.states] = (int) s.items[i + j];
        }
        return 1;
    }

    public int copy(int sheet, int i, int other, int j, int n) {
        if (!isSheet(sheet) || !isSheet(other)) {
            return BAD;
        }
        Sheet from = sheets[sheet];
        Sheet to = sheets[other];
        if (from == null || to == null) {
            return NOTHING;
        }
        if (from.sort != to.sort) {
            return OTHER_SORT;
        }
        if (!from.has(i, n) || !to.has(j, n)) {
            return OUTSIDE;
        }
        System.arraycopy(from.items, i, to.items, j, n);
        return n;
    }

    public int taken(int machine, int k) {
        if (!isWithin(k, 0, 3)) {
            return BAD;
        }
        Steps m = machineAt(machine);
        if (m == null) {
            return NOTHING;
        }
        return isOfKind(m, k) ? m.states : OTHER_SORT;
    }

    // ---- helpers of the calls

    private static boolean isWithin(int v, int least, int most) {
        return v >= least && v <= most;
    }

    /** Only the first n numbers are needed, the others do not matter. */
    private static boolean areWithin(int n, int v0, int v1, int v2, int most) {
        return (n < 1 || isWithin(v0, -most, most))
            && (n < 2 || isWithin(v1, -most, most))
            && (n < 3 || isWithin(v2, -most, most));
    }

    private static long power(int base, int times) {
        long product = 1;
        for (int i = 0; i < times; i++) {
            product *= base;
        }
        return product;
    }

    private static boolean isSheet(int sheet) {
        return isWithin(sheet, 0, SHEETS - 1);
    }

    private boolean isFull() {
        return machineCount >= MOST_MACHINES;
    }

    private Steps machineAt(int number) {
        return isWithin(number, 0, machineCount - 1) ? machines[number] : null;
    }

    private static boolean isOfKind(Steps m, int kind) {
        switch (kind) {
            case 0: return true;
            case 1: return m instanceof Flow;
            case 2: return m instanceof Loop;
            default: return m instanceof Part;
        }
    }

    private static int placeIn(Steps m, int table, int i, int k) {
        if (m == null || !isWithin(table, 0, 3)) {
            return -1;
        }
        if (table == 3) {
            return 0;
        }
        if (!isWithin(i, 0, m.states - 1) || (table == 0 && !isWithin(k, 0, m.states - 1))) {
            return -1;
        }
        return table == 0 ? MOST_STATES * i + k : i;
    }

    private int kept(Steps m) {
        if (isFull()) {
            return FULL;
        }
        machines[machineCount] = m;
        machineCount++;
        return machineCount - 1;
    }

    private int keptIfSmall(Loop loop) {
        for (int table = 0; table <= 3; table++) {
            for (int v : loop.numbersOf(table)) {
                if (!isWithin(v, -MOST_JOINED, MOST_JOINED)) {
                    return FULL;
                }
            }
        }
        return kept(loop);
    }

    private int joined(int first, int second, boolean isSeries) {
        Steps one = machineAt(first);
        Steps two = machineAt(second);
        if (one == null || two == null) {
            return BAD;
        }
        if (one instanceof Flow || two instanceof Flow || one.unit != two.unit) {
            return STATE;
        }
        int n = one.states + two.states;
        if (isFull() || n > MOST_STATES) {
            return FULL;
        }
        Loop loop = new Loop(machineCount, n, one.unit);
        putBlock(loop, 0, one, 1, isSeries ? two.d[0] : 1);
        putBlock(loop, one.states, two, isSeries ? one.d[0] : 1, 1);
        if (isSeries) {
            putCrossing(loop, one, two);
        }
        loop.d[0] = isSeries ? one.d[0] * two.d[0] : one.d[0] + two.d[0];
        return keptIfSmall(loop);
    }

    /** A MACHINE's own numbers come to a LOOP from its STATE from on; factors for what comes in and goes out. */
    private static void putBlock(Loop loop, int from, Steps m, int in, int out) {
        int n = Math.min(m.states, MOST_STATES - from);
        for (int i = 0; i < n; i++) {
            for (int k = 0; k < n; k++) {
                loop.a[MOST_STATES * (from + i) + from + k] = m.a[MOST_STATES * i + k];
            }
            loop.b[from + i] = m.b[i] * in;
            loop.c[from + i] = m.c[i] * out;
        }
    }

    /** What the first one's STATES do to the second one's; expects that the STATES of both fit. */
    private static void putCrossing(Loop loop, Steps one, Steps two) {
        for (int i = one.states; i < loop.states; i++) {
            for (int k = 0; k < one.states; k++) {
                loop.a[MOST_STATES * i + k] = one.unit * two.b[i - one.states] * one.c[k];
            }
        }
    }

    private static void fillRow(Part part, int row, Steps m, int i, int states) {
        int column = 0;
        for (int k = 0; k < m.states; k++) {
            if ((states >> k & 1) == 1 && column < MOST_STATES) {
                part.a[MOST_STATES * row + column] = m.a[MOST_STATES * i + k];
                column++;
            }
        }
        part.b[row] = m.b[i];
        part.c[row] = m.c[i];
    }

    /** Expects that energies looks at the MACHINE and has found its ENERGY. */
    private int proofInto(long[] into, Steps m) {
        int at = 0;
        into[at++] = m.unit;
        int n = Math.min(m.states, 2);
        for (int i = 0; i < n; i++) {
            for (int k = 0; k < n; k++) {
                into[at++] = m.a[MOST_STATES * i + k];
            }
        }
        for (int i = 0; i < n * (n + 1) / 2; i++) {
            energies.numberInto(answer, i);
            into[at++] = answer.above;
            into[at++] = answer.below;
        }
        return at;
    }

    // ---- the kinds

    /** The bodies that ran in the latest act(). */
    private static final class Trace {
        final int[] kept = new int[MOST_KEPT];
        int ran = 0;
    }

    /**
     * TABLES are held three wide for every n: what lies beyond the STATES stays 0 and changes no rank and no
     * minor, so that most of the working out needs no cases of n. A body writes itself into the trace, without
     * a helper, since the bodies alone stand as deep in one another as calls may.
     */
    private static class Steps {
        final int number;
        final int states;
        final int unit;
        final int[] a = new int[MOST_STATES * MOST_STATES];
        final int[] b = new int[MOST_STATES];
        final int[] c = new int[MOST_STATES];
        final int[] d = new int[1];

        Steps(int number, int states, int unit) {
            this.number = number;
            this.states = states;
            this.unit = unit;
        }

        int kind() {
            return 0;
        }

        final int[] numbersOf(int table) {
            switch (table) {
                case 0: return a;
                case 1: return b;
                case 2: return c;
                default: return d;
            }
        }

        int goes(int x, Trace trace) {
            if (trace.ran < MOST_KEPT) {
                trace.kept[trace.ran] = STEPS_GOES;
            }
            trace.ran++;
            return x * 2 + states;
        }

        int leads(int x, Trace trace) {
            if (trace.ran < MOST_KEPT) {
                trace.kept[trace.ran] = STEPS_LEADS;
            }
            trace.ran++;
            return goes(x, trace) - number;
        }

        int shows(int x, Trace trace) {
            if (trace.ran < MOST_KEPT) {
                trace.kept[trace.ran] = STEPS_SHOWS;
            }
            trace.ran++;
            return leads(x, trace) ^ goes(x + unit, trace);
        }
    }

    private static final class Flow extends Steps {
        Flow(int number, int states, int unit) {
            super(number, states, unit);
        }

        int kind() {
            return 1;
        }

        int goes(int x, Trace trace) {
            if (trace.ran < MOST_KEPT) {
                trace.kept[trace.ran] = FLOW_GOES;
            }
            trace.ran++;
            return super.goes(x, trace) + unit;
        }
    }

    private static class Loop extends Steps {
        Loop(int number, int states, int unit) {
            super(number, states, unit);
        }

        int kind() {
            return 2;
        }

        int leads(int x, Trace trace) {
            if (trace.ran < MOST_KEPT) {
                trace.kept[trace.ran] = LOOP_LEADS;
            }
            trace.ran++;
            return super.leads(x, trace) * 3;
        }

        int shows(int x, Trace trace) {
            if (trace.ran < MOST_KEPT) {
                trace.kept[trace.ran] = LOOP_SHOWS;
            }
            trace.ran++;
            return super.shows(x - 1, trace);
        }
    }

    private static final class Part extends Loop {
        Part(int number, int states, int unit) {
            super(number, states, unit);
        }

        int kind() {
            return 3;
        }

        int goes(int x, Trace trace) {
            if (trace.ran < MOST_KEPT) {
                trace.kept[trace.ran] = PART_GOES;
            }
            trace.ran++;
            return super.goes(x, trace) ^ number;
        }

        int shows(int x, Trace trace) {
            if (trace.ran < MOST_KEPT) {
                trace.kept[trace.ran] = PART_SHOWS;
            }
            trace.ran++;
            return leads(x, trace) + super.shows(x, trace);
        }
    }

    private static final class Sheet {
        final int sort;
        final long[] items;

        Sheet(int sort, int n) {
            this.sort = sort;
            this.items = new long[Math.max(n, 0)];
        }

        /** In longs, so that a place near the greatest int does not wrap around to one that is there. */
        boolean has(int i, int n) {
            return i >= 0 && n >= 0 && (long) i + n <= items.length;
        }
    }

    // ---- the working out

    /** In lowest terms, below the line above 0. */
    private static final class Fraction {
        long above = 0;
        long below = 1;

        void put(long over, long under) {
            long shared = sharedDivisor(over, under);
            if (under == 0 || shared == 0) {
                above = 0;
                below = 1;
                return;
            }
            long divisor = under < 0 ? -shared : shared;
            above = over / divisor;
            below = under / divisor;
        }

        long told(int what) {
            return what == 0 ? above : below;
        }

        /** A hundred steps are more than two longs can need. */
        private static long sharedDivisor(long one, long two) {
            long x = Math.abs(one);
            long y = Math.abs(two);
            for (int step = 0; step < 100 && y != 0; step++) {
                long rest = x % y;
                x = y;
                y = rest;
            }
            return x;
        }
    }

    /** Determinants and ranks of rows of three, by minors: no division, so nothing but whole numbers. */
    private static final class Minors {
        static long whole(long[] x, long[] y, long[] z) {
            return x[0] * (y[1] * z[2] - y[2] * z[1])
                - x[1] * (y[0] * z[2] - y[2] * z[0])
                + x[2] * (y[0] * z[1] - y[1] * z[0]);
        }

        static boolean areFree(long[] x, long[] y) {
            return x[0] * y[1] != x[1] * y[0] || x[0] * y[2] != x[2] * y[0] || x[1] * y[2] != x[2] * y[1];
        }

        static boolean isFree(long[] x) {
            return x[0] != 0 || x[1] != 0 || x[2] != 0;
        }

        static int rank(long[][] rows, int count) {
            int rank = 0;
            for (int i = 0; i < count; i++) {
                if (isFree(rows[i])) {
                    rank = Math.max(rank, 1);
                }
                for (int j = 0; j < i; j++) {
                    if (areFree(rows[i], rows[j])) {
                        rank = Math.max(rank, 2);
                    }
                    for (int k = 0; k < j; k++) {
                        if (whole(rows[i], rows[j], rows[k]) != 0) {
                            return 3;
                        }
                    }
                }
            }
            return rank;
        }
    }

    /**
     * What is worked out of one MACHINE at a time. Its numbers are at most 12 from 0 and n is at most 3: the
     * greatest number that comes up, the determinant in least(), stays below 2 to the 61st.
     */
    private static final class Look {
        private Steps machine = new Steps(0, 0, 1);
        /** b, a b, a a b, .. */
        private final long[][] columns = new long[MOST_PULSE][MOST_STATES];
        /** c, c a, c a a */
        private final long[][] rows = new long[MOST_STATES][MOST_STATES];
        final long[] own = new long[MOST_STATES + 1];
        private final long[][] some = new long[MOST_STATES + 1][MOST_STATES];
        private final long[] scaled = new long[MOST_STATES + 1];
        private final long[] lower = new long[MOST_STATES + 1];
        private final long[] now = new long[MOST_STATES];
        private final long[] next = new long[MOST_STATES];

        void at(Steps m) {
            machine = m;
            for (int i = 0; i < MOST_STATES; i++) {
                columns[0][i] = m.b[i];
                rows[0][i] = m.c[i];
            }
            for (int k = 1; k < columns.length; k++) {
                columnInto(columns[k], columns[k - 1]);
            }
            for (int k = 1; k < rows.length; k++) {
                rowInto(rows[k], rows[k - 1]);
            }
            fillOwn();
        }

        private void columnInto(long[] into, long[] x) {
            for (int i = 0; i < MOST_STATES; i++) {
                long sum = 0;
                for (int k = 0; k < MOST_STATES; k++) {
                    sum += machine.a[MOST_STATES * i + k] * x[k];
                }
                into[i] = sum;
            }
        }

        private void rowInto(long[] into, long[] x) {
            for (int k = 0; k < MOST_STATES; k++) {
                long sum = 0;
                for (int i = 0; i < MOST_STATES; i++) {
                    sum += x[i] * machine.a[MOST_STATES * i + k];
                }
                into[k] = sum;
            }
        }

        /** What z^(n - j) has is, but for its sign, the sum of the minors of j STATES: those beyond n are 0. */
        private void fillOwn() {
            for (int i = 0; i < MOST_STATES; i++) {
                for (int k = 0; k < MOST_STATES; k++) {
                    some[i][k] = machine.a[MOST_STATES * i + k];
                }
            }
            putOwn(0, 1);
            putOwn(1, -(some[0][0] + some[1][1] + some[2][2]));
            putOwn(2, pairMinor(0, 1) + pairMinor(0, 2) + pairMinor(1, 2));
            putOwn(3, -Minors.whole(some[0], some[1], some[2]));
        }

        private void putOwn(int j, long v) {
            if (j <= machine.states) {
                own[machine.states - j] = v;
            }
        }

        private long pairMinor(int i, int k) {
            return some[i][i] * some[k][k] - some[i][k] * some[k][i];
        }

        /** c times a done k times to b. */
        private long plainPulse(int k) {
            long sum = 0;
            for (int i = 0; i < MOST_STATES; i++) {
                sum += machine.c[i] * columns[k][i];
            }
            return sum;
        }

        /** OWN times the row d, u c b by z, u c a b by z z, ..: what is left of z^i and above is all of ABOVE. */
        long above(int i) {
            long sum = machine.d[0] * own[i];
            for (int k = 1; k <= machine.states - i; k++) {
                sum += own[i + k] * machine.unit * plainPulse(k - 1);
            }
            return sum;
        }

        boolean isSteady() {
            return machine instanceof Flow ? rootsAreLeftOfZero() : rootsAreWithinCircle();
        }

        /** The rule of Routh and Hurwitz. */
        private boolean rootsAreLeftOfZero() {
            for (int i = 0; i < machine.states; i++) {
                if (own[i] <= 0) {
                    return false;
                }
            }
            return machine.states < 3 || own[2] * own[1] > own[0];
        }

        /** The rule of Schur and Cohn, with u times z in place of z so that the circle is that of 1. */
        private boolean rootsAreWithinCircle() {
            for (int i = 0; i <= machine.states; i++) {
                scaled[i] = own[i] * power(machine.unit, i);
            }
            for (int top = machine.states; top > 0; top--) {
                long first = scaled[0];
                long last = scaled[top];
                if (Math.abs(first) >= Math.abs(last)) {
                    return false;
                }
                for (int i = 0; i < top; i++) {
                    lower[i] = last * scaled[i + 1] - first * scaled[top - 1 - i];
                }
                System.arraycopy(lower, 0, scaled, 0, top);
            }
            return true;
        }

        int reached() {
            return Minors.rank(columns, MOST_STATES);
        }

        int seen() {
            return Minors.rank(rows, MOST_STATES);
        }

        /** The rank of Hankel's table of the PULSES; powers of u in its rows and columns do not change it. */
        int least() {
            for (int i = 0; i < MOST_STATES; i++) {
                for (int k = 0; k < MOST_STATES; k++) {
                    some[i][k] = plainPulse(i + k);
                }
            }
            return Minors.rank(some, MOST_STATES);
        }

        void pulseInto(Fraction into, int k) {
            if (k == 0) {
                into.put(machine.d[0], 1);
            } else {
                into.put(plainPulse(k - 1), power(machine.unit, k - 1));
            }
        }

        void outputInto(Fraction into, int t, int inputs) {
            int rest = inputs;
            long sum = 0;
            for (int i = 0; i < t; i++) {
                sum += plainPulse(t - 1 - i) * power(machine.unit, i + 1) * (rest % INPUT_BASE - 3);
                rest /= INPUT_BASE;
            }
            long below = power(machine.unit, t);
            into.put(sum + machine.d[0] * below * (rest - 3), below);
        }

        /** PULSES of both obey one rule of at most 6 steps: if 6 of them behind d are alike, all are. */
        boolean pulsesAreAlike(Look other) {
            if (machine.d[0] != other.machine.d[0]) {
                return false;
            }
            for (int k = 0; k < 2 * MOST_STATES; k++) {
                long one = plainPulse(k) * power(other.machine.unit, k);
                long two = other.plainPulse(k) * power(machine.unit, k);
                if (one != two) {
                    return false;
                }
            }
            return true;
        }

        /**
         * Ackermann's rule: the row that is 0 on all columns b, a b, .. but the last, times the told polynomial
         * of a, by u times what that row makes of the last column.
         */
        void gainInto(Fraction into, int p0, int p1, int p2, int i) {
            int n = machine.states;
            long[] lead = some[0];
            leadInto(lead);
            System.arraycopy(lead, 0, now, 0, MOST_STATES);
            for (int j = n - 1; j >= 0; j--) {
                long p = j == 0 ? p0 : j == 1 ? p1 : p2;
                rowInto(next, now);
                for (int k = 0; k < MOST_STATES; k++) {
                    now[k] = next[k] + p * lead[k];
                }
            }
            long last = 0;
            for (int k = 0; k < n; k++) {
                last += lead[k] * columns[n - 1][k];
            }
            into.put(now[i], machine.unit * last);
        }

        private void leadInto(long[] lead) {
            long[] x = columns[0];
            long[] y = columns[1];
            boolean isThree = machine.states == 3;
            boolean isTwo = machine.states == 2;
            lead[0] = isThree ? x[1] * y[2] - x[2] * y[1] : isTwo ? -x[1] : 1;
            lead[1] = isThree ? x[2] * y[0] - x[0] * y[2] : isTwo ? x[0] : 0;
            lead[2] = isThree ? x[0] * y[1] - x[1] * y[0] : 0;
        }

        /** t inputs lead x to 0 if a done t times to x hangs on the first t columns; u does not matter for that. */
        int soonestRest(int x0, int x1, int x2) {
            now[0] = machine.states > 0 ? x0 : 0;
            now[1] = machine.states > 1 ? x1 : 0;
            now[2] = machine.states > 2 ? x2 : 0;
            for (int t = 0; t <= machine.states; t++) {
                System.arraycopy(now, 0, some[t], 0, MOST_STATES);
                if (Minors.rank(some, t + 1) == Minors.rank(some, t)) {
                    return t;
                }
                System.arraycopy(columns[t], 0, some[t], 0, MOST_STATES);
                columnInto(next, now);
                System.arraycopy(next, 0, now, 0, MOST_STATES);
            }
            return NONE;
        }
    }

    /**
     * ENERGY of one MACHINE at a time, by Cramer's rule. Its columns are those of P(0,0), P(0,1), P(1,1) in three
     * equations: of what x(0) x(0), x(0) x(1) and x(1) x(1) have on both sides.
     */
    private static final class Energy {
        private final long[][] columns = new long[3][3];
        private final long[] sides = new long[3];
        private final long[] above = new long[3];
        private long below = 0;
        private int states = 0;
        boolean isThere = false;

        void at(Steps m) {
            states = m.states;
            isThere = false;
            if (states > 2) {
                return;
            }
            if (m instanceof Flow) {
                fillFlow(m.a[0], m.a[1], m.a[MOST_STATES], m.a[MOST_STATES + 1], m.unit);
            } else {
                fillTicks(m.a[0], m.a[1], m.a[MOST_STATES], m.a[MOST_STATES + 1], m.unit);
            }
            for (int i = states * (states + 1) / 2; i < 3; i++) {
                leaveOut(i);
            }
            below = Minors.whole(columns[0], columns[1], columns[2]);
            above[0] = Minors.whole(sides, columns[1], columns[2]);
            above[1] = Minors.whole(columns[0], sides, columns[2]);
            above[2] = Minors.whole(columns[0], columns[1], sides);
            isThere = below != 0;
        }

        /** u u P less (a turned) P a is u u. */
        private void fillTicks(long a00, long a01, long a10, long a11, long u) {
            fill(0, u * u - a00 * a00, -a00 * a01, -a01 * a01);
            fill(1, -2 * a00 * a10, u * u - a00 * a11 - a01 * a10, -2 * a01 * a11);
            fill(2, -a10 * a10, -a10 * a11, u * u - a11 * a11);
            fillSides(u * u);
        }

        /** (a turned) P and P a are together u below 0. */
        private void fillFlow(long a00, long a01, long a10, long a11, long u) {
            fill(0, 2 * a00, a01, 0);
            fill(1, 2 * a10, a00 + a11, 2 * a01);
            fill(2, 0, a10, 2 * a11);
            fillSides(-u);
        }

        private void fill(int column, long v0, long v1, long v2) {
            columns[column][0] = v0;
            columns[column][1] = v1;
            columns[column][2] = v2;
        }

        private void fillSides(long v) {
            sides[0] = v;
            sides[1] = 0;
            sides[2] = v;
        }

        /** A number of P that there is not for so few STATES is made 0 by an equation of its own. */
        private void leaveOut(int i) {
            fill(i, 0, 0, 0);
            columns[i][i] = 1;
            sides[i] = 0;
        }

        void numberInto(Fraction into, int i) {
            into.put(i >= 0 && i < 3 ? above[i] : 0, below);
        }

        /** All of P lies over one number below the line: its sign does not matter where two are multiplied. */
        boolean isAboveZero() {
            if (states > 0 && (above[0] == 0 || above[0] > 0 != below > 0)) {
                return false;
            }
            return states < 2 || above[0] * above[2] > above[1] * above[1];
        }
    }
}
