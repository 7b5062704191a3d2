import java.util.Random;

/** Runs of drawn calls on a bench and on the Oracle: every answer must be the same. */
public final class OracleTest {
    private static final int RUNS = 4000, LIMIT_RUNS = 1500;
    /** More calls than any one step makes: a step begins only if there is room for it. */
    private static final int STEP = 100;
    private static int wrong = 0;
    private static final StringBuilder log = new StringBuilder();

    private final Random random;
    private final Bench bench = new Bench();
    private final Oracle oracle = new Oracle();

    private OracleTest(long seed) {
        random = new Random(seed);
    }

    public static void main(String[] args) {
        for (int run = 0; run < RUNS && wrong == 0; run++) {
            OracleTest test = new OracleTest(run);
            log.setLength(0);
            while (test.hasRoom(STEP) && wrong == 0) test.step();
            if (wrong != 0) System.out.println("run " + run + ":\n" + log);
        }
        limits();
        rings();
        System.out.println(wrong == 0 ? "bench and oracle agree" : "bench and oracle differ");
        if (wrong != 0) System.exit(1);
    }

    private static void same(String call, long got, long want) {
        log.append(call).append(" answered ").append(got).append('\n');
        if (got != want) {
            wrong++;
            log.append("   due is ").append(want).append('\n');
        }
    }

    private boolean hasRoom(int calls) {
        return bench.calls() + calls <= Bench.MOST_CALLS;
    }

    private int from(int least, int most) {
        return least + random.nextInt(most - least + 1);
    }

    /** Mostly within the bounds, now and then just or far outside. */
    private int near(int least, int most) {
        int pick = random.nextInt(60);
        if (pick == 0) return least - 1;
        if (pick == 1) return most + 1;
        if (pick == 2) return random.nextBoolean() ? Integer.MAX_VALUE : Integer.MIN_VALUE;
        return most < least ? least : from(least, most);
    }

    private int some() {
        return near(0, Math.max(0, oracle.count(0) - 1));
    }

    private void step() {
        switch (random.nextInt(12)) {
            case 0: case 1: make(); break;
            case 2: case 3: case 4: fill(); break;
            case 5: case 6: case 7: ask(); break;
            case 8: proof(); break;
            case 9: acts(); break;
            case 10: sheets(); break;
            default: askAll(some());
        }
    }

    private void make() {
        int m = some(), o = some(), pick = random.nextInt(9);
        if (pick < 3) {
            int kind = random.nextInt(4) == 0 ? 1 : near(0, 1), n = near(0, 3), unit = 1 << from(0, 2);
            if (random.nextInt(30) == 0) unit = near(0, 5);
            same("machine(" + kind + ", " + n + ", " + unit + ")", bench.machine(kind, n, unit), oracle.machine(kind, n, unit));
            m = oracle.count(0) - 1;
            n = oracle.machineTold(m, 1);
            for (int place = 0; place < 16 && n >= 0; place++) if (random.nextInt(3) > 0) setOne(m, from(0, 3), from(0, 2), from(0, 2), from(-3, 3));
        } else if (pick == 3 || pick == 8) {
            same("series(" + m + ", " + o + ")", bench.series(m, o), oracle.series(m, o));
        } else if (pick == 4) {
            same("side(" + m + ", " + o + ")", bench.side(m, o), oracle.side(m, o));
        } else if (pick == 5) {
            int sign = random.nextInt(8) == 0 ? near(-2, 2) : random.nextBoolean() ? 1 : -1;
            if (random.nextBoolean()) setOne(m, 3, 0, 0, 0);
            same("back(" + m + ", " + sign + ")", bench.back(m, sign), oracle.back(m, sign));
        } else if (pick == 6) {
            int bits = near(0, 7);
            same("part(" + m + ", " + bits + ")", bench.part(m, bits), oracle.part(m, bits));
        } else {
            for (int i = from(0, 3); i >= 0; i--) same("drop()", bench.drop(), oracle.drop());
        }
    }

    private void setOne(int m, int table, int i, int k, int v) {
        same("set(" + m + ", " + table + ", " + i + ", " + k + ", " + v + ")",
            bench.set(m, table, i, k, v), oracle.set(m, table, i, k, v));
    }

    private void fill() {
        setOne(some(), near(0, 3), near(0, 2), near(0, 2), random.nextInt(3) == 0 ? near(-3, 3) : from(-1, 1));
    }

    private void ask() {
        int m = some(), o = some(), i = near(0, 3), k = near(0, 2), what = near(0, 1);
        int t = near(0, 5), inputs = near(0, (int) Math.pow(7, Math.max(0, Math.min(t, 5)) + 1) - 1);
        same("run(" + m + ", " + t + ", " + inputs + ", " + what + ")", bench.run(m, t, inputs, what), oracle.run(m, t, inputs, what));
        int p0 = near(-100, 100), p1 = near(-100, 100), p2 = near(-100, 100);
        same("gain(" + m + ", " + p0 + ", " + p1 + ", " + p2 + ", " + i + ", " + what + ")",
            bench.gain(m, p0, p1, p2, i, what), oracle.gain(m, p0, p1, p2, i, what));
        int x0 = near(-9, 9), x1 = near(-9, 9), x2 = random.nextBoolean() ? 0 : near(-9, 9);
        same("soonest(" + m + ", " + x0 + ", " + x1 + ", " + x2 + ")", bench.soonest(m, x0, x1, x2), oracle.soonest(m, x0, x1, x2));
        same("like(" + m + ", " + o + ")", bench.like(m, o), oracle.like(m, o));
        same("energy(" + m + ", " + i + ", " + k + ", " + what + ")", bench.energy(m, i, k, what), oracle.energy(m, i, k, what));
        int which = near(0, 1), pulse = near(0, 8), told = near(0, 7), kind = near(0, 3);
        same("own(" + m + ", " + which + ", " + i + ")", bench.own(m, which, i), oracle.own(m, which, i));
        same("pulse(" + m + ", " + pulse + ", " + what + ")", bench.pulse(m, pulse, what), oracle.pulse(m, pulse, what));
        same("machineTold(" + m + ", " + told + ")", bench.machineTold(m, told), oracle.machineTold(m, told));
        same("taken(" + m + ", " + kind + ")", bench.taken(m, kind), oracle.taken(m, kind));
        int table = near(0, 3);
        same("table(" + m + ", " + table + ", " + i + ", " + k + ")", bench.table(m, table, i, k), oracle.table(m, table, i, k));
    }

    private void askAll(int m) {
        for (int table = 0; table <= 3; table++)
            for (int i = 0; i < 3; i++)
                for (int k = 0; k < 3; k++)
                    same("table(" + m + ", " + table + ", " + i + ", " + k + ")", bench.table(m, table, i, k), oracle.table(m, table, i, k));
        for (int what = 0; what <= 7; what++)
            same("machineTold(" + m + ", " + what + ")", bench.machineTold(m, what), oracle.machineTold(m, what));
        for (int i = 0; i <= 3; i++) {
            same("own(" + m + ", 0, " + i + ")", bench.own(m, 0, i), oracle.own(m, 0, i));
            same("own(" + m + ", 1, " + i + ")", bench.own(m, 1, i), oracle.own(m, 1, i));
        }
        for (int k = 0; k <= 8; k++)
            for (int what = 0; what <= 1; what++)
                same("pulse(" + m + ", " + k + ", " + what + ")", bench.pulse(m, k, what), oracle.pulse(m, k, what));
        for (int k = 0; k < oracle.count(0); k++) same("like(" + m + ", " + k + ")", bench.like(m, k), oracle.like(m, k));
    }

    private void proof() {
        int m = some(), o = some(), i = near(0, 10);
        if (random.nextInt(3) > 0) same("write(" + m + ")", bench.write(m), oracle.write(m));
        same("check(" + m + ")", bench.check(m), oracle.check(m));
        same("check(" + o + ")", bench.check(o), oracle.check(o));
        long v = random.nextInt(4) > 0 ? from(-4, 4) : random.nextBoolean() ? near(-1000000000, 1000000000) : random.nextLong();
        if (random.nextBoolean()) same("forge(" + i + ", " + v + ")", bench.forge(i, v), oracle.forge(i, v));
        same("check(" + m + ")", bench.check(m), oracle.check(m));
        for (int k = -1; k <= 11; k++) same("row(" + k + ")", bench.row(k), oracle.row(k));
        same("count(1)", bench.count(1), oracle.count(1));
    }

    private void acts() {
        int m = some(), act = near(0, 2), x = random.nextBoolean() ? from(-9, 9) : random.nextInt();
        same("act(" + m + ", " + act + ", " + x + ")", bench.act(m, act, x), oracle.act(m, act, x));
        for (int i = -1; i <= 14; i++) same("trace(" + i + ")", bench.trace(i), oracle.trace(i));
        int what = near(0, 2);
        same("count(" + what + ")", bench.count(what), oracle.count(what));
        same("count(2)", bench.count(2), oracle.count(2));
    }

    private void sheets() {
        int s = near(0, 3), o = near(0, 3), sort = random.nextInt(5) == 0 ? near(-1, 2) : from(0, 2);
        int n = random.nextBoolean() ? near(0, 40) : near(0, 12);
        if (random.nextInt(3) == 0) same("sheet(" + s + ", " + sort + ", " + n + ")", bench.sheet(s, sort, n), oracle.sheet(s, sort, n));
        for (int times = 0; times < 8; times++) {
            int i = near(0, 10), v = random.nextInt(9) > 0 ? from(-3, 3) : random.nextInt(3) > 0 ? from(250, 260) : near(-4, 4);
            same("cell(" + s + ", " + i + ", " + v + ")", bench.cell(s, i, v), oracle.cell(s, i, v));
        }
        int i = near(0, 6), j = near(0, 6), many = near(0, 9);
        same("copy(" + s + ", " + i + ", " + o + ", " + j + ", " + many + ")", bench.copy(s, i, o, j, many), oracle.copy(s, i, o, j, many));
        for (int times = 0; times < 4; times++) {
            int m = some(), of = near(0, 3), as = near(0, 2), at = near(0, 4);
            same("lay(" + m + ", " + of + ", " + as + ", " + at + ")", bench.lay(m, of, as, at), oracle.lay(m, of, as, at));
            for (int r = 0; r < 9; r++) same("table(" + m + ", 0, .., ..)", bench.table(m, 0, r / 3, r % 3), oracle.table(m, 0, r / 3, r % 3));
        }
    }

    /** Joined machines with the greatest numbers there can be: nothing may wrap around. */
    private static void limits() {
        for (long seed = 0; seed < LIMIT_RUNS && wrong == 0; seed++) {
            OracleTest test = new OracleTest(seed);
            log.setLength(0);
            for (int m = 0; m < 3; m++) {
                same("machine(0, 1, 4)", test.bench.machine(0, 1, 4), test.oracle.machine(0, 1, 4));
                for (int table = 0; table <= 3; table++) test.setOne(m, table, 0, 0, test.random.nextBoolean() ? 3 : -3);
                if (test.random.nextBoolean()) test.setOne(m, 1, 0, 0, test.random.nextBoolean() ? 1 : -1);
                if (test.random.nextBoolean()) test.setOne(m, 3, 0, 0, 0);
            }
            while (test.hasRoom(3 * STEP) && wrong == 0) test.make();
            while (test.hasRoom(2 * STEP) && wrong == 0) test.ask();
            while (test.hasRoom(STEP) && wrong == 0) test.askAll(test.oracle.count(0) - 1 - test.random.nextInt(3));
            if (wrong != 0) System.out.println("limits " + seed + ":\n" + log);
        }
    }

    /** Every OWN of three numbers that can be set: roots of all sorts, and near to one another. */
    private static void rings() {
        for (int last = 0; last < 343 && wrong == 0; last++) {
            OracleTest test = new OracleTest(last);
            log.setLength(0);
            for (int kind = 0; kind <= 1; kind++) {
                for (int unit = 1; unit <= 4; unit *= 2) {
                    int m = test.bench.machine(kind, 3, unit);
                    same("machine(" + kind + ", 3, " + unit + ")", m, test.oracle.machine(kind, 3, unit));
                    test.setOne(m, 0, 0, 1, 1);
                    test.setOne(m, 0, 1, 2, 1);
                    for (int k = 0, rest = last; k < 3; k++, rest /= 7) test.setOne(m, 0, 2, k, rest % 7 - 3);
                    same("machineTold(" + m + ", 3)", test.bench.machineTold(m, 3), test.oracle.machineTold(m, 3));
                }
            }
            if (wrong != 0) System.out.println("rings " + last + ":\n" + log);
        }
    }
}
