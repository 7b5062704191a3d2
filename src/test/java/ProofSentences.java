/** Promises 18 to 24: THE ROWS of a proof, acts and their TRACE, counts. */
final class ProofSentences {
    private static final int NONE = Sentences.NONE, BAD = Sentences.BAD, STATE = Sentences.STATE;
    private static final long NO = Sentences.NO;
    private static final int FAR = Sentences.FAR, DEEP = Sentences.DEEP;
    private static final String ROWS = "THE ROWS are the proof of a MACHINE that has ENERGY: u, then a (by rows), then for each P(0,0), P(0,1), P(1,1) "
        + "(as many as there are) the numbers above and below the line: n n + n (n + 1) + 1 numbers.";
    /** Of the FLOW -1 0 / 1 -1 with u 1. */
    private static final long[] PROOF = {1, -1, 0, 1, -1, 3, 4, 1, 4, 1, 2};

    private ProofSentences() {
    }

    static void all() {
        write();
        row();
        forge();
        check();
        checkOfTwo();
        checkPivots();
        act();
        actRefused();
        bodies();
        trace();
        count();
    }

    private static void due(long got, long want) {
        Sentences.due(got, want);
    }

    private static void says(int promise, String sentence) {
        Sentences.says(promise, sentence);
    }

    /** FLOW of two STATES, STEPS of one, of none, of one without ENERGY, of three. */
    private static Bench provable() {
        Bench x = new Bench();
        x.ofA(1, 2, 1, -1, 0, 1, -1);
        x.ofA(0, 1, 2, 1);
        x.machine(0, 0, 4);
        x.ofA(0, 1, 1, 1);
        x.machine(0, 3, 1);
        return x;
    }

    private static void dueRows(Bench x, long... rows) {
        due(x.count(1), rows.length);
        for (int i = 0; i < rows.length; i++) due(x.row(i), rows[i]);
        due(x.row(rows.length), NO);
    }

    // ---- promise 18

    private static void write() {
        says(18, "THE ROWS are the proof of a MACHINE: how many numbers.");
        Bench x = provable();
        due(x.write(0), 11);
        dueRows(x, PROOF);
        due(x.write(1), 4);
        dueRows(x, 2, 1, 4, 3);
        due(x.write(2), 1);
        dueRows(x, 4);
        due(x.write(0), 11);
        dueRows(x, PROOF);
        says(18, ROWS);
        Bench y = Benches.rich();
        dueRows(y, 2, 1, 1, -1, 0, 100, 63, 20, 63, 88, 63);
        for (int m = 0; m < Benches.RICH_COUNT; m++) {
            int n = y.machineTold(m, 1);
            due(y.write(m), y.machineTold(m, 7) == 1 ? n * n + n * (n + 1) + 1 : STATE);
        }
        says(18, "A MACHINE stands for itself: what comes later to others does not change it.");
        x.set(0, 0, 0, 0, 3);
        dueRows(x, PROOF);
        for (int left = 4; left >= 0; left--) x.drop();
        dueRows(x, PROOF);
        says(18, "BAD; STATE: it has no ENERGY.");
        Sentences.refused(Benches::rich, BAD, b -> b.write(-1), b -> b.write(Benches.RICH_COUNT), b -> b.write(FAR), b -> b.write(DEEP));
        Sentences.refused(Benches::rich, STATE, b -> b.write(Benches.STEPS_3), b -> b.write(Benches.NO_ENERGY));
        Sentences.refused(ProofSentences::provable, STATE, b -> b.write(3), b -> b.write(4));
        due(Benches.rich().write(Benches.RICH_COUNT - 2), 1);
    }

    // ---- promises 19 and 20

    private static void row() {
        says(19, "Number i of THE ROWS.");
        for (int m = 0; m <= 2; m++) {
            Bench x = provable();
            for (int i = -1; i <= 12; i++) due(x.row(i), NO);
            int many = x.write(m);
            for (int i = -1; i <= 12; i++) due(x.row(i) == NO ? 0 : 1, i >= 0 && i < many ? 1 : 0);
        }
        Bench y = provable();
        y.write(0);
        for (int i = 0; i < 11; i++) due(y.row(i), PROOF[i]);
        says(19, "NO: there is none such.");
        Sentences.refused(Benches::rich, NO, b -> b.row(-1), b -> b.row(11), b -> b.row(FAR), b -> b.row(DEEP));
        Sentences.refused(Bench::new, NO, b -> b.row(0), b -> b.row(-1));
        due(Benches.rich().row(10), 63);
        due(Benches.rich().row(0), 2);
        y.write(1);
        due(y.row(3), 3);
        due(y.row(4), NO);
    }

    private static void forge() {
        says(20, "Number i of THE ROWS becomes v (-1000000000 .. 1000000000): 1.");
        Bench x = provable();
        x.write(1);
        long[] values = {-1000000001L, -1000000000L, -999999999L, 0, 999999999L, 1000000000L, 1000000001L};
        for (int i = 0; i < 4; i++) {
            for (long v : values) {
                long was = x.row(i);
                boolean isSmall = v >= -1000000000L && v <= 1000000000L;
                due(x.forge(i, v), isSmall ? 1 : BAD);
                due(x.row(i), isSmall ? v : was);
            }
        }
        dueRows(x, 1000000000L, 1000000000L, 1000000000L, 1000000000L);
        due(x.forge(2, -5), 1);
        dueRows(x, 1000000000L, 1000000000L, -5, 1000000000L);
        due(x.write(1), 4);
        dueRows(x, 2, 1, 4, 3);
        says(20, "BAD.");
        for (int i = -1; i <= 5; i++) due(x.forge(i, 7), i >= 0 && i < 4 ? 1 : BAD);
        Sentences.refused(Benches::rich, BAD, b -> b.forge(-1, 0), b -> b.forge(11, 0), b -> b.forge(FAR, 0), b -> b.forge(DEEP, 0),
            b -> b.forge(0, 1000000001L), b -> b.forge(10, -1000000001L), b -> b.forge(0, Long.MAX_VALUE), b -> b.forge(0, Long.MIN_VALUE),
            b -> b.forge(0, 1L << 32), b -> b.forge(0, (1L << 32) + 5), b -> b.forge(11, 1000000001L));
        Sentences.refused(Bench::new, BAD, b -> b.forge(0, 0), b -> b.forge(0, 1));
        due(Benches.rich().forge(10, 0), 1);
    }

    // ---- promise 21

    private static void check() {
        says(21, "The first number of THE ROWS that is not what write() would write of a MACHINE there (also where one of both has none; 0, if that "
            + "would be refused with STATE);");
        for (int i = 0; i < 11; i++) {
            for (int more = -1; more <= 1; more += 2) {
                Bench x = provable();
                x.write(0);
                due(x.check(0), NONE);
                due(x.forge(10, PROOF[10] + more), 1);
                due(x.check(0), 10);
                due(x.forge(i, PROOF[i] + more), 1);
                due(x.check(0), i);
                for (int k = i; k <= 10; k++) x.forge(k, 77);
                due(x.check(0), i);
                due(x.forge(i, PROOF[i]), 1);
                due(x.check(0), i == 10 ? NONE : i + 1);
            }
        }
        Bench y = provable();
        // no ROWS: the first number is one that is not there; no ENERGY: 0, with ROWS and without
        for (int m = 0; m <= 4; m++) due(y.check(m), 0);
        for (int written = 0; written <= 2; written++) {
            y.write(written);
            due(y.check(3), 0);
            due(y.check(4), 0);
        }
        Bench z = new Bench();
        z.ofA(0, 2, 2, 0, 0, 0, 0);
        z.ofA(0, 1, 2, 0);
        z.machine(0, 0, 2);
        z.ofA(0, 2, 2, 0, 1, 0, 0);
        // 2 0 0 0 0 1 1 0 1 1 1, and 2 0 1 1, and 2, and 2 0 1 0 0 1 1 0 1 5 4
        int[][] first = {{NONE, 2, 1, 2}, {2, NONE, 1, 3}, {1, 1, NONE, 1}, {2, 3, 1, NONE}};
        for (int written = 0; written <= 3; written++) {
            z.write(written);
            for (int m = 0; m <= 3; m++) due(z.check(m), first[written][m]);
        }
        // ROWS that agree as far as the shorter ones go
        z.write(0);
        z.forge(2, 1);
        due(z.check(1), 3);
        z.forge(3, 1);
        due(z.check(1), 4);
        z.write(1);
        z.forge(2, 0);
        z.forge(3, 0);
        due(z.check(0), 4);
        due(z.check(2), 1);
    }

    private static void checkOfTwo() {
        says(21, "BAD.");
        Sentences.refused(Benches::rich, BAD, b -> b.check(-1), b -> b.check(Benches.RICH_COUNT), b -> b.check(FAR), b -> b.check(DEEP));
        Sentences.refused(Benches::rich, 0, b -> b.check(Benches.RICH_COUNT - 1), b -> b.check(Benches.STEPS_3));
        Sentences.refused(Benches::rich, NONE, b -> b.check(0), b -> b.check(Benches.LOOP_2));
        Sentences.refused(Benches::rich, 1, b -> b.check(Benches.WIRE), b -> b.check(Benches.FLOW_0), b -> b.check(Benches.FLOW_1));
        Bench x = Benches.rich();
        // what write() would write now, not what it wrote
        x.set(0, 0, 1, 1, 1);
        due(x.check(0), 4);
        x.set(0, 0, 0, 0, 2);
        due(x.check(0), 1);
        x.set(0, 0, 0, 0, 1);
        x.set(0, 0, 1, 1, 0);
        due(x.check(0), NONE);
    }

    private static void dueCheck(int want, long p, long q, long r, int kind, int u, int... a) {
        Bench x = new Bench();
        x.ofA(kind, 2, u, a);
        due(x.write(0), 11);
        due(Long.signum(x.row(5)), Long.signum(p));
        due(x.row(5) * 1000 / x.row(6), p);
        due(x.row(7) * 1000 / x.row(8), q);
        due(x.row(9) * 1000 / x.row(10), r);
        due(x.check(0), want);
    }

    /** P in thousandths, cut off: which of its pivots are above 0. */
    private static void checkPivots() {
        says(21, "NONE: there is none, and of P(0,0) (for n above 0) and P(0,0) P(1,1) less P(0,1) squared (for n 2) all are above 0; STATE: there is "
            + "none, but one of these is not.");
        dueCheck(NONE, 1000, 0, 1000, 0, 4, 0, 0, 0, 0);
        dueCheck(NONE, 19000, 18000, 19000, 0, 1, -3, -3, 3, 3);
        dueCheck(NONE, 444, -416, 583, 1, 1, -3, -3, -2, -3);
        // both below 0 of P(0,0), or of the other, or of both
        dueCheck(STATE, -1000, 1333, -1888, 0, 1, -3, -3, -3, -1);
        dueCheck(STATE, -8000, 0, -8000, 0, 4, -3, -3, -3, 3);
        dueCheck(STATE, 485, -514, 485, 0, 1, -3, -3, -3, -3);
        dueCheck(STATE, 500, -750, 1000, 0, 1, -3, -3, -2, -3);
        dueCheck(STATE, -125, -750, 500, 0, 1, -3, -2, 0, 0);
        dueCheck(STATE, -3500, -2500, -2666, 1, 1, -2, -3, 3, 3);
        dueCheck(STATE, 41, 125, -125, 1, 1, -3, -3, -3, 1);
        // P(0,0) is 0
        dueCheck(STATE, 0, -333, 1000, 0, 1, -3, -1, -1, 0);
        dueCheck(STATE, 0, 166, -166, 1, 1, -3, -3, -3, 0);
        for (int u = 1; u <= 4; u *= 2) {
            for (int a = -3; a <= 3; a++) {
                Bench x = new Bench();
                x.ofA(0, 1, u, a);
                x.ofA(1, 1, u, a);
                due(x.write(0), Math.abs(a) == u ? STATE : 4);
                due(x.check(0), Math.abs(a) == u ? 0 : Math.abs(a) < u ? NONE : STATE);
                due(x.write(1), a == 0 ? STATE : 4);
                due(x.check(1), a == 0 ? 0 : a < 0 ? NONE : STATE);
            }
        }
        Bench y = new Bench();
        y.machine(0, 0, 1);
        y.machine(1, 0, 1);
        due(y.write(0), 1);
        due(y.check(0), NONE);
        due(y.check(1), NONE);
        // a forged number is told ahead of a P that is below 0
        y.ofA(0, 1, 1, 3);
        due(y.write(2), 4);
        due(y.check(2), STATE);
        due(y.forge(2, 1), 1);
        due(y.check(2), 2);
    }

    // ---- promises 22 and 23

    /** STEPS of 3 STATES, FLOW of 2, STEPS of 1, LOOP of 2, PART of 1. */
    private static Bench actors() {
        Bench x = new Bench();
        x.machine(0, 3, 2);
        x.machine(1, 2, 4);
        x.machine(0, 1, 1);
        x.side(2, 2);
        x.part(3, 1);
        return x;
    }

    private static final int[] SOME = {0, 1, -1, 5, 7, -100, 1000000000, -1000000000, 1431655765, 1 << 30, FAR, FAR - 1, DEEP, DEEP + 1};

    private static void act() {
        says(22, "An ACT of a MACHINE with x: what it answers.");
        Bench x = actors();
        due(x.act(0, 0, 5), 13);
        due(x.act(0, 1, 5), 13);
        due(x.act(0, 2, 5), 13 ^ 17);
        due(x.act(4, 2, 5), 33 + (27 ^ 15));
        says(22, "ACTS of MACHINES, with a number x (32 bits, wrapping): 0 goes, 1 leads, 2 shows; m is its number, n as told.");
        for (int v : SOME) {
            // STEPS 0: n 3, u 2
            int goes = v * 2 + 3;
            due(x.act(0, 0, v), goes);
            due(x.act(0, 1, v), goes);
            due(x.act(0, 2, v), goes ^ (v + 2) * 2 + 3);
            // FLOW 1: n 2, u 4
            due(x.act(1, 0, v), v * 2 + 6);
            due(x.act(1, 1, v), v * 2 + 5);
            due(x.act(1, 2, v), v * 2 + 5 ^ (v + 4) * 2 + 6);
            // LOOP 3: n 2, u 1
            due(x.act(3, 0, v), v * 2 + 2);
            due(x.act(3, 1, v), (v * 2 - 1) * 3);
            due(x.act(3, 2, v), ((v - 1) * 2 - 1) * 3 ^ v * 2 + 2);
        }
        for (int v : SOME) {
            // PART 4: n 1, u 1
            int before = ((((v - 1) * 2 + 1 ^ 4) - 4) * 3) ^ (v * 2 + 1 ^ 4);
            due(x.act(4, 0, v), v * 2 + 1 ^ 4);
            due(x.act(4, 1, v), ((v * 2 + 1 ^ 4) - 4) * 3);
            due(x.act(4, 2, v), ((v * 2 + 1 ^ 4) - 4) * 3 + before);
            // STEPS 2: n 1, u 1
            due(x.act(2, 0, v), v * 2 + 1);
            due(x.act(2, 1, v), v * 2 - 1);
            due(x.act(2, 2, v), v * 2 - 1 ^ v * 2 + 3);
        }
    }

    private static void actRefused() {
        says(22, "0, and no TRACE then: no such MACHINE, act.");
        int[][] none = {{5, 0}, {-1, 0}, {FAR, 1}, {DEEP, 2}, {0, 3}, {0, -1}, {4, FAR}, {4, DEEP}, {5, 3}};
        for (int[] c : none) {
            Bench x = actors();
            due(x.act(4, 2, 5), 53);
            due(x.count(2), 13);
            due(x.act(c[0], c[1], 5), 0);
            due(x.count(2), 0);
            due(x.trace(0), NONE);
            due(x.trace(-1), NONE);
            due(x.act(4, 0, 5), 15);
            due(x.count(2), 2);
        }
        Bench y = actors();
        for (int act = -2; act <= 4; act++) due(y.act(0, act, 1), act == 0 || act == 1 ? 5 : act == 2 ? 5 ^ 9 : 0);
        for (int m = -2; m <= 6; m++) due(y.act(m, 0, 100), m == 0 ? 203 : m == 1 ? 206 : m == 2 ? 201 : m == 3 ? 202 : m == 4 ? 205 : 0);
        // all but the TRACE stays
        Bench z = Benches.rich();
        due(z.act(Benches.RICH_COUNT, 0, 0), 0);
        due(z.act(Benches.PART_1, 2, 5), Benches.rich().act(Benches.PART_1, 2, 5));
        String before = Snapshot.of(Benches.rich());
        Sentences.holds("a refused act() changes the TRACE alone", Snapshot.of(z).equals(before));
    }

    private static void dueTrace(Bench x, int m, int act, int... bodies) {
        x.act(m, act, 7);
        due(x.count(2), bodies.length);
        due(x.trace(-1), NONE);
        for (int i = 0; i < bodies.length; i++) due(x.trace(i), bodies[i]);
        due(x.trace(bodies.length), NONE);
    }

    private static void bodies() {
        says(23, "BODIES, each with its number: STEPS: 10 goes: x * 2 + n. 11 leads: goes(x) - m. 12 shows: leads(x) ^ goes(x + u). "
            + "FLOW: 20 goes: super.goes(x) + u. LOOP: 30 leads: super.leads(x) * 3. 31 shows: super.shows(x - 1). "
            + "PART: 40 goes: super.goes(x) ^ m. 41 shows: leads(x) + super.shows(x).");
        Bench x = actors();
        dueTrace(x, 0, 0, 10);
        dueTrace(x, 0, 1, 11, 10);
        dueTrace(x, 0, 2, 12, 11, 10, 10);
        dueTrace(x, 1, 0, 20, 10);
        dueTrace(x, 1, 1, 11, 20, 10);
        dueTrace(x, 1, 2, 12, 11, 20, 10, 20, 10);
        dueTrace(x, 3, 0, 10);
        dueTrace(x, 3, 1, 30, 11, 10);
        dueTrace(x, 3, 2, 31, 12, 30, 11, 10, 10);
        says(23, "goes(..) and so on: the body of the MACHINE's KIND, or, if that has none, of the next KIND above that has one; super.goes(..): so "
            + "from the KIND above the body's on.");
        dueTrace(x, 4, 0, 40, 10);
        dueTrace(x, 4, 1, 30, 11, 40, 10);
        dueTrace(x, 4, 2, 41, 30, 11, 40, 10, 31, 12, 30, 11, 40, 10, 40, 10);
    }

    private static void trace() {
        says(23, "THE TRACE: the numbers of the bodies that ran in the latest act(), in the order in which they began (what stands further left is "
            + "worked out first); the first 40 are kept.");
        // the longest there is has 13, so all are kept
        Bench x = actors();
        dueTrace(x, 4, 2, 41, 30, 11, 40, 10, 31, 12, 30, 11, 40, 10, 40, 10);
        dueTrace(x, 0, 0, 10);
        dueTrace(x, 1, 0, 20, 10);
        // it outlasts calls that are no act(), refused ones too
        x.drop();
        x.write(0);
        x.set(0, 0, 0, 0, 9);
        x.trace(5);
        due(x.count(2), 2);
        due(x.trace(0), 20);
        due(x.trace(1), 10);
        says(23, "THE TRACE's i-th body.");
        due(x.trace(0), 20);
        due(x.trace(1), 10);
        says(23, "NONE: none such.");
        Sentences.refused(Benches::rich, NONE, b -> b.trace(-1), b -> b.trace(13), b -> b.trace(39), b -> b.trace(40), b -> b.trace(FAR), b -> b.trace(DEEP));
        Sentences.refused(Bench::new, NONE, b -> b.trace(0), b -> b.trace(-1));
        due(Benches.rich().trace(12), 10);
        due(Benches.rich().trace(0), 41);
        due(x.trace(2), NONE);
    }

    // ---- promise 24

    private static void count() {
        says(24, "How many: 0 MACHINES, 1 numbers of THE ROWS, 2 bodies of THE TRACE (all that ran).");
        Bench x = Benches.richAndFull();
        due(x.count(0), 12);
        due(x.count(1), 11);
        due(x.count(2), 13);
        x.write(Benches.WIRE);
        due(x.count(1), 1);
        x.write(Benches.PART_1);
        due(x.count(1), 4);
        x.act(Benches.WIRE, 0, 0);
        due(x.count(2), 1);
        x.act(12, 0, 0);
        due(x.count(2), 0);
        x.drop();
        due(x.count(0), 11);
        for (int what = 0; what <= 2; what++) due(new Bench().count(what), 0);
        says(24, "BAD.");
        for (int what = -1; what <= 3; what++) due(x.count(what) == BAD ? 1 : 0, what < 0 || what > 2 ? 1 : 0);
        Sentences.refused(Benches::rich, BAD, b -> b.count(-1), b -> b.count(3), b -> b.count(FAR), b -> b.count(DEEP));
    }
}
