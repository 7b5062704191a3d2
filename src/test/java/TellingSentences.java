/** Promises 9 to 17: what MACHINES tell. */
final class TellingSentences {
    private static final int NONE = Sentences.NONE, BAD = Sentences.BAD, STATE = Sentences.STATE, NO_NUMBER = Sentences.NO_NUMBER;
    private static final long NO = Sentences.NO;
    private static final int FAR = Sentences.FAR, DEEP = Sentences.DEEP;
    private static final String LOWEST = "FRACTIONS are told in lowest terms, below the line above 0 (what 0: above the line, 1: below it).";
    private static final String MOVES = "With x the states (a column), v the input, y the output, all fractions: y is c x + d v; of STEPS, LOOP, PART "
        + "the next states are (a x) by u, and b v; of a FLOW the speed of the states is that.";
    private static final String STEADY = "A MACHINE is STEADY if all roots of OWN (also those that are no real numbers) lie within the circle of u, "
        + "not on it; a FLOW if all of them lie left of 0 (their real parts are below 0).";
    private static final String RANKS = "REACHED: how many of the columns b, a b, a a b, .. (n of them) are free of one another (the rank); SEEN: "
        + "likewise of the rows c, c a, c a a, .. LEAST: the fewest STATES that a MACHINE with the same PULSES can have (fractions in its tables).";
    private static final String ONE_P = "ENERGY, for n at most 2: the fractions P(0,0), P(0,1) = P(1,0), P(1,1) for which, for all x and no input, "
        + "the sum over i and k of x(i) P(i,k) x(k) is less, behind one tick, by the sum of the squares of x (a FLOW: its speed is that below 0); "
        + "it is there if there is just one such P.";

    private TellingSentences() {
    }

    static void all() {
        machineTold();
        steadyOfOne();
        steadyOfTwo();
        steadyOfThree();
        ranks();
        energyIsThere();
        table();
        own();
        above();
        pulse();
        run();
        runMoves();
        like();
        gain();
        gainNumbers();
        soonest();
        soonestTicks();
        energy();
        energyOfAll();
        lowestTerms();
    }

    private static void due(long got, long want) {
        Sentences.due(got, want);
    }

    private static void says(int promise, String sentence) {
        Sentences.says(promise, sentence);
    }

    // ---- promise 9

    private static void machineTold() {
        says(9, "Of a MACHINE: 0 KIND, 1 STATES, 2 UNIT, 3 whether STEADY (1, 0), 4 REACHED, 5 SEEN, 6 LEAST, 7 whether it has ENERGY "
            + "(0: more than 2 STATES, too).");
        int[][] told = {{0, 2, 2, 1, 2, 2, 2, 1}, {1, 1, 2, 1, 1, 1, 1, 1}, {0, 0, 2, 1, 0, 0, 0, 1}, {2, 2, 2, 1, 2, 2, 2, 1},
            {3, 1, 2, 1, 0, 1, 0, 1}, {0, 1, 4, 1, 1, 1, 1, 1}, {0, 3, 2, 0, 2, 2, 2, 0}, {1, 0, 2, 1, 0, 0, 0, 1}, {0, 1, 2, 0, 1, 1, 1, 0}};
        Bench x = Benches.rich();
        for (int m = 0; m < Benches.RICH_COUNT; m++) for (int what = 0; what <= 7; what++) due(x.machineTold(m, what), told[m][what]);
        // all roots are 0, so it is STEADY; its PART of 2 STATES has ENERGY
        Bench y = new Bench();
        y.machine(0, 3, 1);
        y.part(0, 3);
        y.machine(1, 3, 1);
        for (int m = 0; m < 2; m++) due(y.machineTold(m, 3), 1);
        due(y.machineTold(0, 7), 0);
        due(y.machineTold(1, 7), 1);
        due(y.machineTold(2, 7), 0);
        says(9, "BAD.");
        for (int what = -1; what <= 8; what++) due(x.machineTold(0, what) == BAD ? 1 : 0, what < 0 || what > 7 ? 1 : 0);
        Sentences.refused(Benches::rich, BAD, b -> b.machineTold(-1, 0), b -> b.machineTold(Benches.RICH_COUNT, 0), b -> b.machineTold(FAR, 7),
            b -> b.machineTold(DEEP, 3), b -> b.machineTold(0, -1), b -> b.machineTold(0, 8), b -> b.machineTold(0, FAR), b -> b.machineTold(0, DEEP));
    }

    private static void steadyOfOne() {
        says(9, STEADY);
        for (int u = 1; u <= 4; u *= 2) {
            for (int a = -3; a <= 3; a++) {
                Bench x = new Bench();
                x.ofA(0, 1, u, a);
                x.ofA(1, 1, u, a);
                due(x.machineTold(0, 3), Math.abs(a) < u ? 1 : 0);
                due(x.machineTold(1, 3), a < 0 ? 1 : 0);
            }
        }
        // a LOOP's a can lie on the circle of 4, and beyond it
        for (int a = -3; a <= 3; a++) {
            for (int sign = -1; sign <= 1; sign += 2) {
                Bench x = new Bench();
                x.made(0, 1, 4, a, 1, 1, 0);
                x.back(0, sign);
                due(x.table(1, 0, 0, 0), a + 4 * sign);
                due(x.machineTold(1, 3), Math.abs(a + 4 * sign) < 4 ? 1 : 0);
            }
        }
        says(9, "(Without STATES it is.)");
        for (int kind = 0; kind <= 1; kind++) {
            Bench x = new Bench();
            x.machine(kind, 0, 1);
            x.machine(kind, 1, 1);
            due(x.machineTold(0, 3), 1);
            due(x.machineTold(1, 3), 1 - kind);
        }
    }

    /** Of z z - t z + d, by its roots: those that are no real numbers lie as far from 0 as the root of d. */
    private static boolean isPairSteady(int kind, int u, int t, int d) {
        if (kind == 1) return t < 0 && d > 0;
        if (t * t < 4 * d) return d < u * u;
        return Math.abs(t) < 2 * u && u * u - t * u + d > 0 && u * u + t * u + d > 0;
    }

    /** All that can be set; with them that a proof holds for just those that are STEADY. */
    private static void steadyOfTwo() {
        says(9, "(If the MACHINE is STEADY it is there, and P(0,0) and P(0,0) P(1,1) less P(0,1) squared are above 0.)");
        for (int kind = 0; kind <= 1; kind++)
            for (int u = 1; u <= 4; u *= 2)
                for (int top = 0; top < 49; top++) steadyOfTwo(kind, u, top / 7 - 3, top % 7 - 3);
        // a ring of two whose roots lie on the circle of 4
        Bench x = new Bench();
        x.made(0, 1, 4, 0, 1, 1, 0);
        x.series(0, 0);
        x.back(1, -1);
        Sentences.dueTables(x, 2, 2, 0, -4, 4, 0, 1, 0, 0, 1, 0);
        due(x.machineTold(2, 3), 0);
        due(x.machineTold(2, 7), 0);
    }

    private static void steadyOfTwo(int kind, int u, int a00, int a01) {
        Bench x = new Bench();
        x.ofA(kind, 2, u, a00, a01, 0, 0);
        for (int a10 = -3; a10 <= 3; a10++) {
            x.set(0, 0, 1, 0, a10);
            for (int a11 = -3; a11 <= 3; a11++) {
                x.set(0, 0, 1, 1, a11);
                boolean isSteady = isPairSteady(kind, u, a00 + a11, a00 * a11 - a01 * a10);
                due(x.machineTold(0, 3), isSteady ? 1 : 0);
                boolean isThere = x.machineTold(0, 7) == 1;
                Sentences.holds("ENERGY of what is STEADY", isThere || !isSteady);
                due(x.write(0), isThere ? 11 : STATE);
                due(x.check(0), isThere ? isSteady ? NONE : STATE : 0);
            }
        }
    }

    /** (z - r) times (z z - t z + d), where the numbers can be set: roots within, on and beyond, together. */
    private static void steadyOfThree() {
        says(9, STEADY);
        for (int r = -3; r <= 3; r++)
            for (int t = -6; t <= 6; t++)
                for (int d = -9; d <= 9; d++) {
                    int[] last = {r * d, -(d + r * t), t + r};
                    if (Math.abs(last[0]) <= 3 && Math.abs(last[1]) <= 3 && Math.abs(last[2]) <= 3) steadyOfThree(r, t, d, last);
                }
        // no whole roots: z z z + p z z + q z + s is of a steady FLOW if all are above 0 and p q above s
        int[][] flows = {{3, 1, 2}, {1, 3, 2}, {2, 2, 3}, {1, 2, 3}, {2, 1, 3}, {1, 1, 2}, {3, 1, 3}, {3, 2, 3}, {2, 1, 2}};
        for (int[] f : flows) {
            Bench x = new Bench();
            x.ofA(1, 3, 1, 0, 1, 0, 0, 0, 1, -f[2], -f[1], -f[0]);
            due(x.machineTold(0, 3), f[0] * f[1] > f[2] ? 1 : 0);
        }
    }

    private static void steadyOfThree(int r, int t, int d, int[] last) {
        Bench x = new Bench();
        for (int kind = 0; kind <= 1; kind++) {
            for (int u = 1; u <= 4; u *= 2) {
                int m = x.ofA(kind, 3, u, 0, 1, 0, 0, 0, 1, last[0], last[1], last[2]);
                boolean isFirstSteady = kind == 1 ? r < 0 : Math.abs(r) < u;
                due(x.machineTold(m, 3), isFirstSteady && isPairSteady(kind, u, t, d) ? 1 : 0);
            }
        }
    }

    private static void dueRanks(int n, int reached, int seen, int least, int... numbers) {
        for (int kind = 0; kind <= 1; kind++) {
            for (int u = 1; u <= 4; u *= 2) {
                Bench x = new Bench();
                x.made(kind, n, u, numbers);
                due(x.machineTold(0, 4), reached);
                due(x.machineTold(0, 5), seen);
                due(x.machineTold(0, 6), least);
            }
        }
    }

    private static void ranks() {
        says(9, RANKS);
        dueRanks(0, 0, 0, 0, 3);
        dueRanks(1, 0, 0, 0, 2, 0, 0, 1);
        dueRanks(1, 1, 0, 0, 2, 1, 0, 1);
        dueRanks(1, 0, 1, 0, 2, 0, 1, 1);
        dueRanks(1, 1, 1, 1, 0, 3, -3, 0);
        dueRanks(2, 1, 1, 0, 1, 0, 0, 2, 1, 0, 0, 1, 0);
        dueRanks(2, 1, 1, 1, 1, 0, 0, 2, 1, 0, 1, 0, 0);
        dueRanks(2, 2, 1, 1, 1, 0, 0, 2, 1, 1, 0, 1, 0);
        dueRanks(2, 1, 2, 1, 1, 0, 0, 2, 0, 1, 1, 1, 0);
        dueRanks(2, 2, 2, 2, 1, 0, 0, 2, 1, 1, 1, 1, 0);
        dueRanks(2, 1, 1, 1, 2, 0, 0, 2, 1, 1, 1, 1, 0);
        dueRanks(2, 2, 2, 2, 0, 1, 0, 0, 0, 1, 1, 0, 0);
        dueRanks(2, 1, 2, 1, 0, 1, 0, 0, 1, 0, 1, 0, 0);
        // three roots that differ: each STATE is reached, seen, or both, by itself
        for (int reach = 0; reach < 8; reach++) {
            for (int see = 0; see < 8; see++) {
                dueRanks(3, Integer.bitCount(reach), Integer.bitCount(see), Integer.bitCount(reach & see), 1, 0, 0, 0, -2, 0, 0, 0, 3,
                    reach & 1, reach >> 1 & 1, reach >> 2, see & 1, see >> 1 & 1, see >> 2, 0);
            }
        }
        // a row of STATES, each led by the one behind it, seen in the first: what is led at place p reaches the places up to p
        int[][] ends = {{1, 0, 0, 1}, {0, 1, 0, 2}, {0, 0, 1, 3}, {2, -1, 3, 3}, {0, 0, 0, 0}};
        for (int[] e : ends) {
            dueRanks(3, e[3], 3, e[3], 0, 1, 0, 0, 0, 1, 0, 0, 0, e[0], e[1], e[2], 1, 0, 0, 0);
            dueRanks(3, 3, e[3], e[3], 0, 0, 0, 1, 0, 0, 0, 1, 0, 1, 0, 0, e[0], e[1], e[2], 0);
        }
        // one root three times, a b = b; and twice
        dueRanks(3, 1, 1, 1, 2, 0, 0, 0, 2, 0, 0, 0, 2, 1, 2, 3, 3, 2, 1, 0);
        dueRanks(3, 2, 2, 2, 2, 0, 0, 0, 2, 0, 0, 0, 1, 1, 2, 3, 3, 2, 1, 0);
        // twice the same beside itself, with the other sign: nothing comes out
        dueRanks(2, 1, 1, 0, 3, 0, 0, 3, 1, 1, 1, -1, 0);
    }

    private static void dueEnergy(int isThere, int kind, int n, int u, int... a) {
        Bench x = new Bench();
        x.ofA(kind, n, u, a);
        due(x.machineTold(0, 7), isThere);
        due(x.write(0), isThere == 0 ? STATE : n == 0 ? 1 : n == 1 ? 4 : n == 2 ? 11 : NONE);
        if (n > 0) due(x.energy(0, 0, 0, 1) == NO ? 0 : 1, isThere);
    }

    private static void energyIsThere() {
        says(9, ONE_P);
        for (int u = 1; u <= 4; u *= 2) {
            for (int a = -3; a <= 3; a++) {
                dueEnergy(Math.abs(a) == u ? 0 : 1, 0, 1, u, a);
                dueEnergy(a == 0 ? 0 : 1, 1, 1, u, a);
            }
        }
        dueEnergy(1, 0, 0, 1);
        dueEnergy(1, 1, 0, 1);
        dueEnergy(0, 0, 3, 4, 1, 0, 0, 0, 1, 0, 0, 0, 1);
        dueEnergy(0, 1, 3, 4, -1, 0, 0, 0, -1, 0, 0, 0, -1);
        // roots 1 and 4, that are each other's turned over within the circle of 2; roots that are not
        dueEnergy(0, 0, 2, 2, 3, 1, 2, 2);
        dueEnergy(1, 0, 2, 2, 3, 1, 1, 2);
        dueEnergy(0, 0, 2, 1, 2, 1, 1, 1);
        dueEnergy(1, 0, 2, 1, 2, 1, 1, -1);
        // one root on the circle, the other within; both within
        dueEnergy(0, 0, 2, 2, 2, 1, 0, 1);
        dueEnergy(0, 0, 2, 2, 1, 1, 0, -2);
        dueEnergy(1, 0, 2, 2, 1, 1, 0, -1);
        dueEnergy(1, 0, 2, 2, 3, 1, 0, -1);
        // no real numbers, on the circle and off it
        dueEnergy(0, 0, 2, 1, 0, 1, -1, 0);
        dueEnergy(1, 0, 2, 1, 0, 1, -2, 0);
        dueEnergy(0, 0, 2, 2, 1, 3, -1, 1);
        dueEnergy(1, 0, 2, 2, 1, 2, -1, 1);
        // a FLOW's roots: of sum 0, one of them 0, neither
        dueEnergy(0, 1, 2, 1, 1, 0, 0, -1);
        dueEnergy(1, 1, 2, 1, 1, 0, 0, -2);
        dueEnergy(0, 1, 2, 2, 0, 1, 0, -1);
        dueEnergy(0, 1, 2, 4, 0, 1, -1, 0);
        dueEnergy(1, 1, 2, 4, 0, 1, -1, 1);
        dueEnergy(0, 1, 2, 1, 0, 0, 0, 0);
    }

    // ---- promise 10

    private static void table() {
        says(10, "A number of a TABLE (as in set()).");
        Bench x = new Bench();
        x.made(0, 2, 1, 1, 2, 3, -1, -2, -3, 2, 1, 3);
        Sentences.dueTables(x, 0, 2, 1, 2, 3, -1, -2, -3, 2, 1, 3);
        due(x.table(0, 1, 1, FAR), -3);
        due(x.table(0, 1, 0, -1), -2);
        due(x.table(0, 2, 0, DEEP), 2);
        due(x.table(0, 2, 1, 2), 1);
        due(x.table(0, 3, -1, 2), 3);
        due(x.table(0, 3, FAR, DEEP), 3);
        x.back(0, 1);
        due(x.table(1, 0, 0, 0), NO_NUMBER);
        says(10, "-100000: no such MACHINE, TABLE, place.");
        for (int n = 0; n <= 3; n++) {
            Bench y = new Bench();
            y.machine(n % 2, n, 1);
            for (int i = -1; i <= 4; i++) {
                boolean isPlace = i >= 0 && i < n;
                for (int k = -1; k <= 4; k++) due(y.table(0, 0, i, k), isPlace && k >= 0 && k < n ? 0 : NO_NUMBER);
                for (int table = 1; table <= 2; table++) due(y.table(0, table, i, -1), isPlace ? 0 : NO_NUMBER);
                due(y.table(0, 3, i, i), 0);
            }
            for (int table = -2; table <= 6; table++) due(y.table(0, table, 0, 0), table == 3 || table >= 0 && table < 3 && n > 0 ? 0 : NO_NUMBER);
        }
        Sentences.refused(Benches::rich, NO_NUMBER, b -> b.table(-1, 3, 0, 0), b -> b.table(Benches.RICH_COUNT, 3, 0, 0), b -> b.table(FAR, 0, 0, 0),
            b -> b.table(DEEP, 0, 0, 0), b -> b.table(0, FAR, 0, 0), b -> b.table(0, DEEP, 0, 0), b -> b.table(0, 0, FAR, 0), b -> b.table(0, 0, 0, DEEP),
            b -> b.table(Benches.PART_1, 0, 1, 0), b -> b.table(Benches.LOOP_2, 2, 2, 0), b -> b.table(Benches.WIRE, 1, 0, 0));
    }

    // ---- promise 11

    private static void own() {
        says(11, "What z^i has in OWN (which 0), in ABOVE (1).");
        Bench x = new Bench();
        x.made(0, 3, 4, 1, 2, -1, 3, -1, 2, -2, 1, 3, 2, 1, -3, 1, -1, 2, 2);
        long[] own = {32, -11, -3, 1}, above = {144, -26, -26, 2};
        for (int i = 0; i <= 3; i++) {
            due(x.own(0, 0, i), own[i]);
            due(x.own(0, 1, i), above[i]);
        }
        says(11, "OWN is the polynomial z^n + .. whose value at each z is the determinant of z times one less a (without STATES 1).");
        x.made(1, 0, 2, 3);
        due(x.own(1, 0, 0), 1);
        due(x.own(1, 0, 1), NO);
        x.ofA(1, 1, 2, -3);
        due(x.own(2, 0, 0), 3);
        due(x.own(2, 0, 1), 1);
        x.ofA(0, 2, 2, 3, -2, 1, 2);
        due(x.own(3, 0, 0), 8);
        due(x.own(3, 0, 1), -5);
        due(x.own(3, 0, 2), 1);
        says(11, "NO: no such, i is not 0 .. n.");
        for (int n = 0; n <= 3; n++) {
            Bench y = new Bench();
            y.machine(0, n, 1);
            for (int i = -2; i <= 5; i++) {
                due(y.own(0, 0, i), i < 0 || i > n ? NO : i == n ? 1 : 0);
                due(y.own(0, 1, i), i < 0 || i > n ? NO : 0);
            }
            for (int which = -2; which <= 3; which++) due(y.own(0, which, n), which == 0 ? 1 : which == 1 ? 0 : NO);
        }
        Sentences.refused(Benches::rich, NO, b -> b.own(-1, 0, 0), b -> b.own(Benches.RICH_COUNT, 0, 0), b -> b.own(FAR, 0, 0), b -> b.own(DEEP, 1, 0),
            b -> b.own(0, -1, 0), b -> b.own(0, 2, 0), b -> b.own(0, FAR, 0), b -> b.own(0, DEEP, 0), b -> b.own(0, 0, -1), b -> b.own(0, 1, 3),
            b -> b.own(0, 0, FAR), b -> b.own(0, 1, DEEP));
    }

    private static void above() {
        says(11, "RATIO: polynomials in z, ABOVE and OWN, such that ABOVE by OWN is d + u times c times (z times one less a, turned over) times b, "
            + "for all z for which OWN is not 0; ABOVE has n + 1 numbers at most.");
        Bench x = new Bench();
        // what ABOVE and OWN share is not taken out: z - 2 times 2, and 3 times OWN
        x.made(0, 2, 2, 1, 0, 0, 2, 1, 0, 1, 1, 3);
        long[] own = {2, -3, 1}, above = {6 - 4, -9 + 2, 3};
        for (int i = 0; i <= 2; i++) {
            due(x.own(0, 0, i), own[i]);
            due(x.own(0, 1, i), above[i]);
        }
        x.made(0, 0, 4, -3);
        due(x.own(1, 1, 0), -3);
        due(x.own(1, 1, 1), NO);
        x.made(1, 1, 4, 2, 3, -1, 0);
        due(x.own(2, 1, 0), -12);
        due(x.own(2, 1, 1), 0);
        // of a row of three ticks 1 by z z z, with u 2
        x.made(0, 3, 2, 0, 1, 0, 0, 0, 1, 0, 0, 0, 0, 0, 1, 1, 0, 0, 0);
        due(x.own(3, 1, 0), 2);
        for (int i = 1; i <= 3; i++) due(x.own(3, 1, i), 0);
    }

    // ---- promise 12

    private static void pulse() {
        says(12, "PULSE of k (0 .. 8): what 0, 1.");
        Bench x = new Bench();
        x.made(0, 1, 2, 3, 1, 1, 2);
        due(x.pulse(0, -1, 0), NO);
        due(x.pulse(0, 0, 0), 2);
        due(x.pulse(0, 8, 0), 2187);
        due(x.pulse(0, 8, 1), 128);
        due(x.pulse(0, 9, 0), NO);
        for (int what = -2; what <= 3; what++) due(x.pulse(0, 2, what), what == 0 ? 3 : what == 1 ? 2 : NO);
        says(12, "PULSE of k: 0: d; k above 0: c times (a by u) done k - 1 times to b.");
        long above = 1, below = 1;
        Sentences.dueRatio(x.pulse(0, 0, 0), x.pulse(0, 0, 1), 2, 1);
        for (int k = 1; k <= 8; k++) {
            Sentences.dueRatio(x.pulse(0, k, 0), x.pulse(0, k, 1), above, below);
            above *= 3;
            below *= 2;
        }
        Bench y = new Bench();
        y.made(1, 0, 4, -1);
        Sentences.dueRatio(y.pulse(0, 0, 0), y.pulse(0, 0, 1), -1, 1);
        for (int k = 1; k <= 8; k++) Sentences.dueRatio(y.pulse(0, k, 0), y.pulse(0, k, 1), 0, 1);
        y.made(1, 3, 4, 1, 2, -1, 3, -1, 2, -2, 1, 3, 2, 1, -3, 1, -1, 2, 2);
        Sentences.dueRatio(y.pulse(1, 1, 0), y.pulse(1, 1, 1), -5, 1);
        Sentences.dueRatio(y.pulse(1, 2, 0), y.pulse(1, 2, 1), -4, 1);
        Sentences.dueRatio(y.pulse(1, 3, 0), y.pulse(1, 3, 1), -83, 16);
        says(12, "NO: no such.");
        Sentences.refused(Benches::rich, NO, b -> b.pulse(-1, 0, 0), b -> b.pulse(Benches.RICH_COUNT, 0, 0), b -> b.pulse(FAR, 0, 0),
            b -> b.pulse(DEEP, 0, 0), b -> b.pulse(0, -1, 0), b -> b.pulse(0, 9, 0), b -> b.pulse(0, FAR, 0), b -> b.pulse(0, DEEP, 0),
            b -> b.pulse(0, 0, -1), b -> b.pulse(0, 0, 2), b -> b.pulse(0, 0, FAR), b -> b.pulse(0, 0, DEEP));
    }

    // ---- promise 13

    private static void run() {
        says(13, "The output of a MACHINE that is no FLOW at tick t (0 .. 5), from all states 0 on, by inputs v(0) .. v(t): inputs is the sum of "
            + "(v(i) + 3) 7^i, each v(i) -3 .. 3: what 0, 1.");
        Bench x = new Bench();
        x.made(0, 1, 1, 0, 1, 1, 0);
        x.made(0, 0, 1, 1);
        for (int v = -3; v <= 3; v++) {
            int[] all = {v, 1, -2, 3, 0, 2};
            int inputs = 0, power = 1;
            for (int t = 0; t <= 5; t++) {
                inputs += (all[t] + 3) * power;
                power *= 7;
                // the first tells what came a tick before, the second what comes now
                due(x.run(0, t, inputs, 0), t == 0 ? 0 : all[t - 1]);
                due(x.run(1, t, inputs, 0), all[t]);
            }
        }
        for (int t = -1; t <= 6; t++) due(x.run(0, t, 3, 1), t >= 0 && t <= 5 ? 1 : NO);
        for (int what = -2; what <= 3; what++) due(x.run(1, 0, 5, what), what == 0 ? 2 : what == 1 ? 1 : NO);
        says(13, "NO: no such, a FLOW, inputs is not 0 .. 7^(t + 1) less 1.");
        int limit = 7;
        for (int t = 0; t <= 5; t++) {
            due(x.run(1, t, -1, 0), NO);
            due(x.run(1, t, 0, 0), -3);
            due(x.run(1, t, limit - 1, 0), 3);
            due(x.run(1, t, limit, 0), NO);
            limit *= 7;
        }
        Sentences.refused(Benches::rich, NO, b -> b.run(-1, 0, 0, 0), b -> b.run(Benches.RICH_COUNT, 0, 0, 0), b -> b.run(FAR, 0, 0, 0),
            b -> b.run(DEEP, 0, 0, 0), b -> b.run(0, -1, 0, 0), b -> b.run(0, 6, 0, 0), b -> b.run(0, FAR, 0, 0), b -> b.run(0, DEEP, 0, 0),
            b -> b.run(0, 0, 7, 0), b -> b.run(0, 5, 117649, 0), b -> b.run(0, 5, FAR, 0), b -> b.run(0, 5, DEEP, 0), b -> b.run(0, 0, -1, 0),
            b -> b.run(0, 0, 0, 2), b -> b.run(0, 0, 0, -1), b -> b.run(0, 0, 0, FAR), b -> b.run(Benches.FLOW_1, 0, 0, 0),
            b -> b.run(Benches.FLOW_0, 0, 3, 0), b -> b.run(Benches.FLOW_1, 5, 117648, 1));
        Bench y = Benches.rich();
        for (int m : new int[] {Benches.STEPS_2, Benches.LOOP_2, Benches.PART_1, Benches.WIRE}) due(y.run(m, 0, 3, 1), 1);
    }

    private static void runMoves() {
        says(13, MOVES);
        Bench x = new Bench();
        // u divides a x alone, not b v: v 1, 0, 0, .. gives 2 by 1, 2, 4, 8, 16
        x.made(0, 1, 2, 1, 1, 2, 3);
        int inputs = 4 + 3 * (7 + 49 + 343 + 2401 + 16807);
        int power = 7;
        for (int t = 1; t <= 5; t++) {
            power *= 7;
            Sentences.dueRatio(x.run(0, t, inputs % power, 0), x.run(0, t, inputs % power, 1), t == 1 ? 2 : 1, t < 2 ? 1 : 1 << t - 2);
        }
        Sentences.dueRatio(x.run(0, 0, 4, 0), x.run(0, 0, 4, 1), 3, 1);
        // states 0 0, then 3 6, then -5/2 10, then -17/4 33/2
        x.made(0, 2, 2, 1, -1, 2, 3, 1, 2, 3, -1, 2);
        int four = 6 + 7 * 2 + 49 * 5 + 343 * 4;
        Sentences.dueRatio(x.run(1, 0, 6, 0), x.run(1, 0, 6, 1), 6, 1);
        Sentences.dueRatio(x.run(1, 1, 20, 0), x.run(1, 1, 20, 1), 1, 1);
        Sentences.dueRatio(x.run(1, 2, four - 1372, 0), x.run(1, 2, four - 1372, 1), -27, 2);
        Sentences.dueRatio(x.run(1, 3, four, 0), x.run(1, 3, four, 1), -109, 4);
    }

    // ---- promise 14

    /** c sees the first of three STATES, each led by the one behind it: PULSES 0, 0, 1, r, q + r r, .. */
    private static int ring(Bench x, int u, int p, int q, int r) {
        return x.made(0, 3, u, 0, 1, 0, 0, 0, 1, p, q, r, 0, 0, 1, 1, 0, 0, 0);
    }

    private static void like() {
        says(14, "Whether two MACHINES are LIKE: 1, 0.");
        Bench x = new Bench();
        ring(x, 1, 1, 0, 0);
        ring(x, 1, 0, 0, 0);
        ring(x, 1, 0, 1, 0);
        ring(x, 1, 0, 0, 1);
        // the first PULSE in which they differ is that of 6, of 5, of 4
        for (int m = 0; m < 4; m++) for (int o = 0; o < 4; o++) due(x.like(m, o), m == o ? 1 : 0);
        for (int k = 0; k <= 8; k++) due(x.pulse(0, k, 0) - x.pulse(1, k, 0), k == 6 ? 1 : 0);
        // one PULSE alone is not 0: that of 0, of 1, of 2, of 3
        x.made(0, 0, 1, 1);
        x.made(0, 1, 1, 0, 1, 1, 0);
        x.made(0, 2, 1, 0, 1, 0, 0, 0, 1, 1, 0, 0);
        x.machine(0, 0, 1);
        int[] alone = {4, 5, 6, 1};
        for (int k = 0; k <= 3; k++) {
            for (int at = 0; at <= 4; at++) due(x.pulse(alone[k], at, 0), at == k ? 1 : 0);
            due(x.like(alone[k], 7), 0);
            for (int other = 0; other <= 3; other++) due(x.like(alone[k], alone[other]), k == other ? 1 : 0);
        }
        says(14, "TWO MACHINES are LIKE if all their PULSES are alike, and both or none are FLOWS.");
        Bench y = new Bench();
        int base = y.made(0, 1, 1, 1, 1, 1, 1);
        int[][] others = {{0, 1, 1, 1, 1, 1, 1, 1}, {0, 1, 2, 2, 1, 1, 1, 1}, {0, 1, 1, 1, -1, -1, 1, 1}, {0, 1, 1, 1, 1, 1, 0, 0},
            {0, 1, 2, 1, 1, 1, 1, 0}, {0, 1, 1, 1, 1, 2, 1, 0}, {0, 1, 1, -1, 1, 1, 1, 0}, {1, 1, 1, 1, 1, 1, 1, 0}};
        for (int[] o : others) {
            int m = y.made(o[0], o[1], o[2], o[3], o[4], o[5], o[6]);
            due(y.like(base, m), o[7]);
            due(y.like(m, base), o[7]);
        }
        Bench z = new Bench();
        z.made(0, 0, 1, 2);
        z.made(0, 3, 4, 3, 2, 1, 0, 1, 2, 3, 0, 1, 1, 1, 1, 0, 0, 0, 2);
        z.made(1, 0, 2, 2);
        z.made(1, 2, 4, 1, 2, 3, 0, 0, 0, 1, 1, 2);
        z.made(0, 0, 1, -2);
        int[][] alike = {{1, 1, 0, 0, 0}, {1, 1, 0, 0, 0}, {0, 0, 1, 1, 0}, {0, 0, 1, 1, 0}, {0, 0, 0, 0, 1}};
        for (int m = 0; m < 5; m++) for (int o = 0; o < 5; o++) due(z.like(m, o), alike[m][o]);
        z.part(0, 0);
        z.series(0, 0);
        due(z.like(0, 5), 1);
        due(z.like(0, 6), 0);
        says(14, "BAD.");
        Sentences.refused(Benches::rich, BAD, b -> b.like(-1, 0), b -> b.like(0, -1), b -> b.like(Benches.RICH_COUNT, 0), b -> b.like(0, Benches.RICH_COUNT),
            b -> b.like(FAR, 0), b -> b.like(0, DEEP), b -> b.like(-1, -1), b -> b.like(Benches.FLOW_1, Benches.RICH_COUNT));
        due(Benches.rich().like(Benches.RICH_COUNT - 1, 0), 0);
    }

    // ---- promise 15

    /** Behind n STATES each led by the one behind it, so that u times the GAINS are the told numbers. */
    private static Bench chains() {
        Bench x = new Bench();
        x.made(0, 1, 1, 0, 1, 0, 0);
        x.made(0, 2, 1, 0, 1, 0, 0, 0, 1, 0, 0, 0);
        x.made(0, 3, 1, 0, 1, 0, 0, 0, 1, 0, 0, 0, 0, 0, 1, 0, 0, 0, 0);
        x.machine(0, 0, 1);
        return x;
    }

    private static void gain() {
        says(15, "GAINS' i-th number for p(0), p(1), p(2) (-100 .. 100; those that are not needed do not matter): what 0, 1.");
        int[] edges = {DEEP, -101, -100, -99, 0, 99, 100, 101, FAR};
        for (int n = 1; n <= 3; n++) {
            Bench x = chains();
            for (int v : edges) {
                boolean isSmall = v >= -100 && v <= 100;
                due(x.gain(n - 1, v, 2, 3, 0, 0), isSmall ? v : NO);
                due(x.gain(n - 1, 1, v, 3, 0, 0), isSmall || n < 2 ? 1 : NO);
                due(x.gain(n - 1, 1, 2, v, 0, 0), isSmall || n < 3 ? 1 : NO);
                if (n >= 2) due(x.gain(n - 1, 1, v, 3, 1, 0), isSmall ? v : NO);
                if (n >= 3) due(x.gain(n - 1, 1, 2, v, 2, 0), isSmall ? v : NO);
            }
            for (int i = -2; i <= 4; i++) due(x.gain(n - 1, 7, 8, 9, i, 0), i >= 0 && i < n ? 7 + i : NO);
            for (int what = -2; what <= 3; what++) due(x.gain(n - 1, 7, 8, 9, 0, what), what == 0 ? 7 : what == 1 ? 1 : NO);
        }
        says(15, "NO: no such MACHINE, REACHED is not n, i, what, p.");
        for (int i = -1; i <= 1; i++) due(chains().gain(3, 0, 0, 0, i, 0), NO);
        // REACHED is 0, 1, 2, 3 of 3
        for (int lead = 0; lead < 8; lead++) {
            Bench x = new Bench();
            x.made(lead % 2, 3, 1, 1, 0, 0, 0, 2, 0, 0, 0, 3, lead & 1, lead >> 1 & 1, lead >> 2, 1, 1, 1, 0);
            for (int i = 0; i < 3; i++) due(x.gain(0, -6, 11, -6, i, 0), lead == 7 ? 0 : NO);
        }
        Sentences.refused(Benches::rich, NO, b -> b.gain(-1, 0, 0, 0, 0, 0), b -> b.gain(Benches.RICH_COUNT, 0, 0, 0, 0, 0),
            b -> b.gain(FAR, 0, 0, 0, 0, 0), b -> b.gain(DEEP, 0, 0, 0, 0, 0), b -> b.gain(Benches.PART_1, 0, 0, 0, 0, 0),
            b -> b.gain(Benches.STEPS_3, 0, 0, 0, 0, 0), b -> b.gain(Benches.WIRE, 0, 0, 0, 0, 0), b -> b.gain(0, 0, 0, 0, -1, 0),
            b -> b.gain(0, 0, 0, 0, 2, 0), b -> b.gain(0, 0, 0, 0, FAR, 0), b -> b.gain(0, 0, 0, 0, DEEP, 0), b -> b.gain(0, 0, 0, 0, 0, 2),
            b -> b.gain(0, 0, 0, 0, 0, -1), b -> b.gain(0, 101, 0, 0, 0, 0), b -> b.gain(0, -101, 0, 0, 0, 0), b -> b.gain(0, 0, 101, 0, 0, 0),
            b -> b.gain(0, 0, DEEP, 0, 0, 0));
    }

    private static void gainNumbers() {
        says(15, "GAINS, if REACHED is n: the row k of fractions for which, in place of a, (a less u times b k) has the told polynomial "
            + "z^n + p(n - 1) z^(n - 1) + .. + p(0) as its OWN (there is just one).");
        Bench x = new Bench();
        // 3 + 4 k = -p(0)
        x.made(1, 1, 2, 3, -2, 0, 0);
        for (int p = -100; p <= 100; p += 10) {
            Ratio k = Ratio.of(-p - 3).by(Ratio.of(4));
            Sentences.dueRatio(x.gain(0, p, FAR, DEEP, 0, 0), x.gain(0, p, FAR, DEEP, 0, 1), k.told(0), k.told(1));
        }
        int[][] numbers = {{1, 2, 3, -1, 2, 1, 0, 0, 0}, {0, 1, -1, 0, 0, -3, 1, 1, 2}, {3, 3, 3, 3, 1, 2, 0, 0, 1}, {-3, 1, 0, 2, 3, 3, 0, 0, 0}};
        for (int[] v : numbers) for (int u = 1; u <= 4; u *= 2) for (int p = -100; p <= 100; p += 40) dueOwnWithGains(2, u, v, p, p / 4 - 3, 0);
        int[][] three = {{1, 2, -1, 3, -1, 2, -2, 1, 3, 2, 1, -3, 0, 0, 0, 0}, {0, 3, 3, 3, 0, -3, 3, 3, 1, 1, -2, 3, 0, 0, 0, 0},
            {3, 3, 3, -3, 3, 3, -3, -3, 3, 3, 2, 1, 0, 0, 0, 0}};
        for (int[] v : three) for (int u = 1; u <= 4; u *= 2) for (int p = -100; p <= 100; p += 40) dueOwnWithGains(3, u, v, p, 7 - p / 2, p / 4);
    }

    /** Puts the GAINS that are told into a, and looks at the determinant of z times one less that, for n + 1 z. */
    private static void dueOwnWithGains(int n, int u, int[] v, int p0, int p1, int p2) {
        Bench x = new Bench();
        x.made(0, n, u, v);
        int[] told = {p0, p1, p2};
        Ratio[] k = new Ratio[n];
        for (int i = 0; i < n; i++) k[i] = told(x.gain(0, p0, p1, p2, i, 0), x.gain(0, p0, p1, p2, i, 1));
        for (int z = 0; z <= n; z++) {
            Ratio[][] g = Grid.zero(n, n);
            for (int i = 0; i < n; i++)
                for (int j = 0; j < n; j++) {
                    Ratio led = Ratio.of(v[n * i + j]).minus(Ratio.of((long) u * v[n * n + i]).times(k[j]));
                    g[i][j] = Ratio.of(i == j ? z : 0).minus(led);
                }
            Ratio want = Ratio.of(1);
            for (int j = n - 1; j >= 0; j--) want = want.times(Ratio.of(z)).plus(Ratio.of(told[j]));
            Sentences.holds("OWN with the GAINS at " + z + " of " + java.util.Arrays.toString(v), Grid.determinant(g).same(want));
        }
    }

    /** A fraction as it is told; one that is not told in lowest terms, or is refused, is no fraction here. */
    private static Ratio told(long above, long below) {
        boolean isTold = above != NO && below != NO && below > 0;
        Sentences.holds("a fraction is told", isTold);
        if (!isTold) return Ratio.ZERO;
        Ratio r = new Ratio(java.math.BigInteger.valueOf(above), java.math.BigInteger.valueOf(below));
        Sentences.holds(above + "/" + below + " in lowest terms", r.told(0) == above && r.told(1) == below);
        return r;
    }

    // ---- promise 16

    private static void soonest() {
        says(16, "SOONEST of a beginning (x(i) -9 .. 9; those that are not needed do not matter).");
        int[] edges = {DEEP, -10, -9, -1, 0, 1, 9, 10, FAR};
        for (int n = 0; n <= 3; n++) {
            Bench x = new Bench();
            x.machine(0, n, 1);
            for (int v : edges) {
                boolean isSmall = v >= -9 && v <= 9;
                int moved = v == 0 ? 0 : 1;
                due(x.soonest(0, v, 0, 0), n < 1 ? 0 : isSmall ? moved : BAD);
                due(x.soonest(0, 0, v, 0), n < 2 ? 0 : isSmall ? moved : BAD);
                due(x.soonest(0, 0, 0, v), n < 3 ? 0 : isSmall ? moved : BAD);
            }
        }
        says(16, "NONE: there is none such.");
        Bench y = new Bench();
        // the first STATE stays as it is whatever comes in, the second one can be led
        y.made(0, 2, 1, 1, 0, 0, 1, 0, 1, 0, 0, 0);
        due(y.soonest(0, 0, 9, 0), 1);
        due(y.soonest(0, 1, 0, 0), NONE);
        due(y.soonest(0, -9, 9, 0), NONE);
        due(y.soonest(0, 0, 0, 0), 0);
        y.made(0, 1, 4, 1, 0, 0, 0);
        due(y.soonest(1, 1, 0, 0), NONE);
        due(y.soonest(1, 0, 0, 0), 0);
        // two that go alike cannot be led apart
        y.made(0, 3, 1, 1, 0, 0, 0, 1, 0, 0, 0, 0, 1, 1, 1, 0, 0, 0, 0);
        due(y.soonest(2, 0, 0, 5), 1);
        due(y.soonest(2, 4, 4, 5), 2);
        due(y.soonest(2, 4, 5, 4), NONE);
        says(16, "NONE is -1; NO, where a long is answered, -4611686018427387904.");
        due(y.soonest(2, 4, 5, 4), -1);
        due(y.gain(0, 0, 0, 0, 0, 0), -4611686018427387904L);
        due(SteerBench.NONE, -1);
        due(SteerBench.NO, -4611686018427387904L);
        says(16, "BAD: no such MACHINE, a FLOW, x.");
        Sentences.refused(Benches::rich, BAD, b -> b.soonest(-1, 0, 0, 0), b -> b.soonest(Benches.RICH_COUNT, 0, 0, 0), b -> b.soonest(FAR, 0, 0, 0),
            b -> b.soonest(DEEP, 0, 0, 0), b -> b.soonest(Benches.FLOW_1, 0, 0, 0), b -> b.soonest(Benches.FLOW_0, 0, 0, 0),
            b -> b.soonest(0, 10, 0, 0), b -> b.soonest(0, -10, 0, 0), b -> b.soonest(0, 0, 10, 0), b -> b.soonest(0, 0, -10, 0),
            b -> b.soonest(Benches.STEPS_3, 0, 0, 10), b -> b.soonest(Benches.STEPS_3, 0, 0, -10), b -> b.soonest(Benches.NO_ENERGY, FAR, 0, 0));
        Sentences.refused(Benches::rich, 1, b -> b.soonest(Benches.PART_1, 1, FAR, DEEP) == NONE ? 1 : 0);
    }

    private static void soonestTicks() {
        says(16, "SOONEST of a beginning x: the least t of 0 .. n for which some t inputs lead a MACHINE that is no FLOW from x to all states 0.");
        Bench x = new Bench();
        // without input it takes a tick for each STATE; led at the end it takes as long, with b ahead less
        x.made(0, 3, 2, 0, 1, 0, 0, 0, 1, 0, 0, 0, 0, 0, 0, 0, 0, 0, 0);
        int[][] begun = {{0, 0, 0, 0}, {5, 0, 0, 1}, {0, 1, 0, 2}, {-9, 9, 0, 2}, {0, 0, 1, 3}, {9, -9, 9, 3}};
        for (int[] b : begun) due(x.soonest(0, b[0], b[1], b[2]), b[3]);
        x.made(0, 3, 4, 0, 1, 0, 0, 0, 1, 1, 2, 3, 0, 0, 1, 0, 0, 0, 0);
        for (int[] b : begun) due(x.soonest(1, b[0], b[1], b[2]), b[3]);
        x.made(0, 3, 4, 0, 1, 0, 0, 0, 1, 0, 0, 0, 0, 1, 0, 0, 0, 0, 0);
        int[] led = {0, 1, 2, 2, 1, 2};
        for (int i = 0; i < 6; i++) due(x.soonest(2, begun[i][0], begun[i][1], begun[i][2]), led[i]);
        // the input that is asked is a fraction: -3 by 8
        x.made(0, 1, 4, 3, 2, 0, 0);
        due(x.soonest(3, 1, 0, 0), 1);
        due(x.soonest(3, 0, 0, 0), 0);
        x.made(0, 2, 2, 1, 1, -1, 0, 0, 1, 1, 0, 0);
        due(x.soonest(4, 1, 0, 0), 2);
        due(x.soonest(4, 1, -1, 0), 1);
        due(x.soonest(4, 9, -9, 0), 1);
        due(x.soonest(4, 9, -8, 0), 2);
        x.part(4, 3);
        due(x.soonest(5, 9, -9, 10), 1);
        x.machine(0, 0, 1);
        due(x.soonest(6, FAR, DEEP, FAR), 0);
    }

    // ---- promise 17

    private static void energy() {
        says(17, "ENERGY: P(i,k): what 0, 1.");
        for (int n = 0; n <= 2; n++) {
            Bench x = new Bench();
            x.machine(0, n, 1);
            for (int i = -1; i <= 3; i++)
                for (int k = -1; k <= 3; k++) {
                    boolean isPlace = i >= 0 && i < n && k >= 0 && k < n;
                    due(x.energy(0, i, k, 0), isPlace ? i == k ? 1 : 0 : NO);
                    due(x.energy(0, i, k, 1), isPlace ? 1 : NO);
                }
            for (int what = -2; what <= 3; what++) due(x.energy(0, 0, 0, what), n > 0 && (what == 0 || what == 1) ? 1 : NO);
        }
        says(17, MOVES);
        // behind a tick a fourth is left: P is 4 by 3; a FLOW goes back by x by 2: its P is 1, twice that by a unit of 4
        Bench y = new Bench();
        y.made(0, 1, 2, 1, 3, 3, 3);
        y.made(1, 1, 2, -1, 3, 3, 3);
        y.made(1, 1, 4, -1, 3, 3, 3);
        Sentences.dueRatio(y.energy(0, 0, 0, 0), y.energy(0, 0, 0, 1), 4, 3);
        Sentences.dueRatio(y.energy(1, 0, 0, 0), y.energy(1, 0, 0, 1), 1, 1);
        Sentences.dueRatio(y.energy(2, 0, 0, 0), y.energy(2, 0, 0, 1), 2, 1);
        says(17, "NO: no such, it has none.");
        Sentences.refused(Benches::rich, NO, b -> b.energy(-1, 0, 0, 0), b -> b.energy(Benches.RICH_COUNT, 0, 0, 0), b -> b.energy(FAR, 0, 0, 0),
            b -> b.energy(DEEP, 0, 0, 0), b -> b.energy(0, 2, 0, 0), b -> b.energy(0, 0, 2, 0), b -> b.energy(0, -1, 0, 0), b -> b.energy(0, 0, -1, 0),
            b -> b.energy(0, -1, 1, 0), b -> b.energy(0, 2, -1, 0), b -> b.energy(0, FAR, 0, 0), b -> b.energy(0, 0, DEEP, 0), b -> b.energy(0, 0, 0, 2),
            b -> b.energy(0, 0, 0, -1), b -> b.energy(0, 0, 0, FAR), b -> b.energy(Benches.WIRE, 0, 0, 0), b -> b.energy(Benches.PART_1, 1, 0, 0),
            b -> b.energy(Benches.PART_1, 0, 1, 0), b -> b.energy(Benches.STEPS_3, 0, 0, 0), b -> b.energy(Benches.NO_ENERGY, 0, 0, 0),
            b -> b.energy(Benches.NO_ENERGY, 0, 0, 1));
    }

    /** Of all MACHINES of two STATES: P is told just if it is there, and it loses what it is to lose. */
    private static void energyOfAll() {
        says(17, ONE_P);
        for (int kind = 0; kind <= 1; kind++)
            for (int u = 1; u <= 4; u *= 2)
                for (int top = 0; top < 49; top++) energyOfAll(kind, u, top / 7 - 3, top % 7 - 3);
    }

    private static void energyOfAll(int kind, int u, int a00, int a01) {
        Bench x = new Bench();
        x.ofA(kind, 2, u, a00, a01, 0, 0);
        for (int a10 = -3; a10 <= 3; a10++) {
            x.set(0, 0, 1, 0, a10);
            for (int a11 = -3; a11 <= 3; a11++) {
                x.set(0, 0, 1, 1, a11);
                int t = a00 + a11, d = a00 * a11 - a01 * a10;
                if (!isThere(kind, u, t, d)) {
                    due(x.energy(0, 0, 1, 0), NO);
                    continue;
                }
                Ratio p = told(x.energy(0, 0, 0, 0), x.energy(0, 0, 0, 1));
                Ratio q = told(x.energy(0, 0, 1, 0), x.energy(0, 1, 0, 1));
                Ratio r = told(x.energy(0, 1, 1, 0), x.energy(0, 1, 1, 1));
                boolean loses = true;
                for (int[] s : new int[][] {{1, 0}, {0, 1}, {1, 1}, {2, -3}}) loses &= loses(kind, u, new int[] {a00, a01, a10, a11}, s, p, q, r);
                Sentences.holds("the loss of P for kind " + kind + ", u " + u + ", a " + a00 + " " + a01 + " " + a10 + " " + a11, loses);
            }
        }
    }

    /** There is just one P unless two roots (or one, twice) have u u as their product; of a FLOW 0 as their sum. */
    private static boolean isThere(int kind, int u, int t, int d) {
        if (kind == 1) return t != 0 && d != 0;
        return d != u * u && u * u - t * u + d != 0 && u * u + t * u + d != 0;
    }

    private static boolean loses(int kind, int u, int[] a, int[] s, Ratio p, Ratio q, Ratio r) {
        Ratio x0 = Ratio.of(s[0]), x1 = Ratio.of(s[1]);
        Ratio y0 = Ratio.of(a[0] * s[0] + a[1] * s[1]).by(Ratio.of(u)), y1 = Ratio.of(a[2] * s[0] + a[3] * s[1]).by(Ratio.of(u));
        Ratio lost = kind == 1 ? Ratio.ZERO.minus(pair(x0, x1, y0, y1, p, q, r)).minus(pair(y0, y1, x0, x1, p, q, r))
            : pair(x0, x1, x0, x1, p, q, r).minus(pair(y0, y1, y0, y1, p, q, r));
        return lost.same(Ratio.of(s[0] * s[0] + s[1] * s[1]));
    }

    private static Ratio pair(Ratio x0, Ratio x1, Ratio y0, Ratio y1, Ratio p, Ratio q, Ratio r) {
        return x0.times(p.times(y0).plus(q.times(y1))).plus(x1.times(q.times(y0).plus(r.times(y1))));
    }

    private static void lowestTerms() {
        says(17, LOWEST);
        Bench x = new Bench();
        // 0 by 1; whole; below 0; where what is divided by would be below 0
        x.ofA(0, 2, 1, 0, 0, 0, 0);
        Sentences.dueRatio(x.energy(0, 0, 1, 0), x.energy(0, 0, 1, 1), 0, 1);
        x.ofA(0, 1, 1, 3);
        Sentences.dueRatio(x.energy(1, 0, 0, 0), x.energy(1, 0, 0, 1), -1, 8);
        x.ofA(1, 1, 4, -2);
        Sentences.dueRatio(x.energy(2, 0, 0, 0), x.energy(2, 0, 0, 1), 1, 1);
        x.ofA(1, 1, 4, 3);
        Sentences.dueRatio(x.energy(3, 0, 0, 0), x.energy(3, 0, 0, 1), -2, 3);
        says(15, LOWEST);
        x.made(0, 1, 4, 2, -3, 0, 0);
        // k is (a + p) by u b: 2 + p by -12
        int[][] gains = {{-2, 0, 1}, {0, -1, 6}, {-6, 1, 3}, {10, -1, 1}, {-100, 49, 6}, {100, -17, 2}};
        for (int[] g : gains) Sentences.dueRatio(x.gain(4, g[0], 0, 0, 0, 0), x.gain(4, g[0], 0, 0, 0, 1), g[1], g[2]);
        says(12, LOWEST);
        x.made(0, 1, 4, -2, 2, 1, 0);
        long[][] pulses = {{0, 1}, {2, 1}, {-1, 1}, {1, 2}, {-1, 4}, {1, 8}, {-1, 16}, {1, 32}, {-1, 64}};
        for (int k = 0; k <= 8; k++) Sentences.dueRatio(x.pulse(5, k, 0), x.pulse(5, k, 1), pulses[k][0], pulses[k][1]);
        says(13, LOWEST);
        // v 3, 3, 3: states 6, then 3, then 9 by 2
        Sentences.dueRatio(x.run(5, 0, 6, 0), x.run(5, 0, 6, 1), 0, 1);
        Sentences.dueRatio(x.run(5, 1, 48, 0), x.run(5, 1, 48, 1), 6, 1);
        Sentences.dueRatio(x.run(5, 2, 342, 0), x.run(5, 2, 342, 1), 3, 1);
        Sentences.dueRatio(x.run(5, 3, 2400, 0), x.run(5, 3, 2400, 1), 9, 2);
        Sentences.dueRatio(x.run(5, 3, 0, 0), x.run(5, 3, 0, 1), -9, 2);
    }
}
