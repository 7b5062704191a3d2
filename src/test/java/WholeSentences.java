import java.util.ArrayList;
import java.util.List;
import java.util.Random;
import java.util.function.ToLongFunction;

/** "What it is" and "Not promised": what the promises come to together, and that nothing else comes of a call. */
final class WholeSentences {
    private static final int DRAWN = 300;
    private static final int[] UNITS = {1, 2, 4};

    private WholeSentences() {
    }

    static void all() throws InterruptedException {
        ticksAndFlow();
        exactOutputs();
        ratios();
        steadyTogether();
        reachedAndSeen();
        least();
        gains();
        rest();
        energies();
        joined();
        fedBack();
        proofs();
        heldInside();
        otherObjects();
        tellingChangesNothing();
        changesOfTheirOwn();
    }

    private static void due(long got, long want) {
        Sentences.due(got, want);
    }

    private static void says(String sentence) {
        Sentences.says(0, sentence);
    }

    // ---- machines and polynomials for the tests

    private static int drawn(Bench x, Random random, int kind, int n, int unit, int most) {
        int[] v = new int[n * n + 2 * n + 1];
        for (int i = 0; i < v.length; i++) v[i] = random.nextInt(2 * most + 1) - most;
        return x.made(kind, n, unit, v);
    }

    /** a turned over its first place, b and c in each other's stead. */
    private static int turned(Bench x, int m) {
        int n = x.machineTold(m, 1);
        int[] v = new int[n * n + 2 * n + 1];
        int at = 0;
        for (int i = 0; i < n; i++) for (int k = 0; k < n; k++) v[at++] = x.table(m, 0, k, i);
        for (int i = 0; i < n; i++) v[at++] = x.table(m, 2, i, 0);
        for (int i = 0; i < n; i++) v[at++] = x.table(m, 1, i, 0);
        v[at] = x.table(m, 3, 0, 0);
        return x.made(x.machineTold(m, 0), n, x.machineTold(m, 2), v);
    }

    private static long[] polynomial(Bench x, int m, int which) {
        long[] p = new long[x.machineTold(m, 1) + 1];
        for (int i = 0; i < p.length; i++) p[i] = x.own(m, which, i);
        return p;
    }

    private static long[] product(long[] p, long[] q) {
        long[] r = new long[p.length + q.length - 1];
        for (int i = 0; i < p.length; i++) for (int k = 0; k < q.length; k++) r[i + k] += p[i] * q[k];
        return r;
    }

    /** p, and factor times q. */
    private static long[] sum(long[] p, long[] q, long factor) {
        long[] r = p.clone();
        for (int i = 0; i < r.length; i++) r[i] += factor * q[i];
        return r;
    }

    private static void duePolynomial(Bench x, int m, int which, long[] want) {
        for (int i = 0; i < want.length; i++) due(x.own(m, which, i), want[i]);
        due(x.own(m, which, want.length), Sentences.NO);
    }

    private static int inputs(int... v) {
        int sum = 0;
        for (int i = v.length - 1; i >= 0; i--) sum = 7 * sum + v[i] + 3;
        return sum;
    }

    private static Ratio output(Bench x, int m, int... v) {
        int t = v.length - 1;
        return Ratio.of(x.run(m, t, inputs(v), 0)).by(Ratio.of(x.run(m, t, inputs(v), 1)));
    }

    // ---- what it is

    private static void ticksAndFlow() {
        says("A steersman's bench: machines of few states that go by ticks or flow, led by one input and seen by one output;");
        Random random = new Random(1);
        for (int n = 0; n <= 3; n++) {
            for (int unit : UNITS) {
                long seed = random.nextLong();
                Bench x = new Bench();
                drawn(x, new Random(seed), 0, n, unit, 3);
                drawn(x, new Random(seed), 1, n, unit, 3);
                for (int k = 0; k <= 8; k++) for (int what = 0; what <= 1; what++) due(x.pulse(1, k, what), x.pulse(0, k, what));
                for (int t = 0; t <= 5; t++) due(x.run(1, t, 0, 0), Sentences.NO);
                outputsAddUp(x, random);
            }
        }
    }

    /** What two rows of inputs lead to is, of their sum, the sum. */
    private static void outputsAddUp(Bench x, Random random) {
        for (int t = 0; t <= 5; t++) {
            int[] v = new int[t + 1], w = new int[t + 1], both = new int[t + 1];
            for (int i = 0; i <= t; i++) {
                v[i] = random.nextInt(4) - 2;
                w[i] = random.nextInt(3) - 1;
                both[i] = v[i] + w[i];
            }
            Sentences.holds("the outputs of two rows of inputs add up", output(x, 0, v).plus(output(x, 0, w)).same(output(x, 0, both)));
        }
    }

    private static void exactOutputs() {
        says("exact outputs,");
        Bench x = new Bench();
        x.made(0, 1, 4, 3, 3, 3, 0);
        Sentences.dueRatio(x.run(0, 5, inputs(3, 3, 3, 3, 3, 0), 0), x.run(0, 5, inputs(3, 3, 3, 3, 3, 0), 1), 21087, 256);
        Random random = new Random(2);
        for (int drawn = 0; drawn < DRAWN; drawn++) {
            Bench y = new Bench();
            drawn(y, random, 0, drawn % 4, UNITS[drawn % 3], 3);
            for (int t = 0; t <= 5; t++) {
                int[] first = new int[t + 1];
                first[0] = 1;
                for (int what = 0; what <= 1; what++) due(y.run(0, t, inputs(first), what), y.pulse(0, t, what));
            }
        }
    }

    /** OWN done to the outputs is ABOVE done to the inputs; ahead of tick 0 all was at rest. */
    private static void ratios() {
        says("ratios as fractions of polynomials,");
        Random random = new Random(3);
        for (int drawn = 0; drawn < DRAWN; drawn++) {
            int n = drawn % 4, unit = UNITS[drawn % 3];
            Bench x = new Bench();
            drawn(x, random, 0, n, unit, 3);
            int[] v = new int[6];
            for (int i = 0; i < 6; i++) v[i] = random.nextInt(7) - 3;
            Ratio[] y = new Ratio[6];
            for (int t = 0; t < 6; t++) y[t] = output(x, 0, java.util.Arrays.copyOf(v, t + 1));
            for (int t = -n; t + n < 6; t++) {
                Ratio left = Ratio.ZERO, right = Ratio.ZERO;
                for (int k = Math.max(0, -t); k <= n; k++) {
                    long power = (long) Math.pow(unit, k);
                    left = left.plus(y[t + k].times(Ratio.of(x.own(0, 0, k) * power)));
                    right = right.plus(Ratio.of(v[t + k] * x.own(0, 1, k) * power));
                }
                Sentences.holds("ABOVE by OWN leads from the inputs to the outputs", left.same(right));
            }
        }
    }

    private static void steadyTogether() {
        says("shown steady or not,");
        Random random = new Random(4);
        for (int drawn = 0; drawn < DRAWN; drawn++) {
            int unit = UNITS[drawn % 3];
            Bench x = new Bench();
            drawn(x, random, 0, 1 + drawn % 2, unit, 2);
            drawn(x, random, 0, 1, unit, 1);
            int both = x.machineTold(0, 3) * x.machineTold(1, 3);
            int side = x.side(0, 1);
            due(x.machineTold(side, 3), both);
            int series = x.series(0, 1);
            if (series >= 0) due(x.machineTold(series, 3), both);
        }
    }

    private static void reachedAndSeen() {
        says("what can be reached and seen,");
        Random random = new Random(5);
        for (int drawn = 0; drawn < DRAWN; drawn++) {
            Bench x = new Bench();
            drawn(x, random, drawn % 2, 1 + drawn % 3, UNITS[drawn / 3 % 3], 1);
            turned(x, 0);
            due(x.machineTold(1, 4), x.machineTold(0, 5));
            due(x.machineTold(1, 5), x.machineTold(0, 4));
            due(x.machineTold(1, 3), x.machineTold(0, 3));
            due(x.machineTold(1, 6), x.machineTold(0, 6));
            due(x.like(0, 1), 1);
        }
    }

    private static void least() {
        says("the least machine of the same outputs,");
        Random random = new Random(6);
        for (int drawn = 0; drawn < DRAWN; drawn++) {
            int n = drawn % 4;
            Bench x = new Bench();
            drawn(x, random, 0, n, UNITS[drawn % 3], 1);
            int reached = x.machineTold(0, 4), seen = x.machineTold(0, 5), least = x.machineTold(0, 6);
            Sentences.holds("LEAST is at most REACHED and SEEN", least <= reached && least <= seen);
            Sentences.holds("LEAST is no less than what is both reached and seen", least >= reached + seen - n);
            Sentences.holds("LEAST is n if all is reached and seen, and else it is not", (least == n) == (reached == n && seen == n));
            int wire = x.made(0, 0, UNITS[drawn % 3], 0);
            due(x.machineTold(x.series(0, wire), 6), 0);
            due(x.like(x.series(0, wire), wire), 1);
        }
    }

    /** back() with sign -1 takes u times (b, c) from a: so c are the GAINS for the OWN that comes of it. */
    private static void gains() {
        says("gains for told roots,");
        Random random = new Random(7);
        int tried = 0;
        for (int drawn = 0; drawn < 2 * DRAWN; drawn++) {
            int n = 1 + drawn % 3;
            Bench x = new Bench();
            drawn(x, random, 0, n, UNITS[drawn / 3 % 3], n == 1 ? 3 : 2);
            x.set(0, 3, 0, 0, 0);
            int loop = x.back(0, -1);
            if (loop < 0 || x.machineTold(0, 4) < n) continue;
            long[] p = java.util.Arrays.copyOf(polynomial(x, loop, 0), 4);
            if (Math.max(Math.abs(p[0]), Math.max(Math.abs(p[1]), Math.abs(p[2]))) > 100) continue;
            tried++;
            for (int i = 0; i < n; i++) {
                due(x.gain(0, (int) p[0], (int) p[1], (int) p[2], i, 0), x.table(0, 2, i, 0));
                due(x.gain(0, (int) p[0], (int) p[1], (int) p[2], i, 1), 1);
            }
        }
        Sentences.holds("many drawn MACHINES have such GAINS", tried > DRAWN / 2);
    }

    private static void rest() {
        says("how soon rest can be reached,");
        Random random = new Random(8);
        for (int drawn = 0; drawn < DRAWN; drawn++) {
            int n = 1 + drawn % 3;
            Bench x = new Bench();
            drawn(x, random, 0, n, UNITS[drawn / 3 % 3], 1);
            due(x.soonest(0, 0, 0, 0), 0);
            for (int times = 0; times < 6; times++) {
                int[] at = {random.nextInt(5) - 2, random.nextInt(5) - 2, random.nextInt(5) - 2};
                int t = x.soonest(0, at[0], at[1], at[2]);
                due(x.soonest(0, -3 * at[0], -3 * at[1], -3 * at[2]), t);
                if (x.machineTold(0, 4) == n) Sentences.holds("where all is reached, rest is", t >= 0 && t <= n);
                Sentences.holds("one tick is enough just where b has the way of a x", (t == 0 || t == 1) == oneTickIsEnough(x, n, at));
            }
        }
    }

    private static boolean oneTickIsEnough(Bench x, int n, int[] at) {
        long[] next = new long[3], b = new long[3];
        boolean isFree = true;
        for (int i = 0; i < n; i++) {
            b[i] = x.table(0, 1, i, 0);
            for (int k = 0; k < n; k++) next[i] += (long) x.table(0, 0, i, k) * at[k];
            isFree &= at[i] == 0;
        }
        if (isFree || next[0] == 0 && next[1] == 0 && next[2] == 0) return true;
        if (b[0] == 0 && b[1] == 0 && b[2] == 0) return false;
        return next[0] * b[1] == next[1] * b[0] && next[0] * b[2] == next[2] * b[0] && next[1] * b[2] == next[2] * b[1];
    }

    private static void energies() {
        says("energies with their pivots;");
        Random random = new Random(9);
        for (int drawn = 0; drawn < DRAWN; drawn++) {
            Bench x = new Bench();
            drawn(x, random, drawn % 2, 1 + drawn % 3, UNITS[drawn / 6 % 3], 3);
            int wrote = x.write(0);
            int n = x.machineTold(0, 1);
            due(wrote >= 0 ? 1 : 0, x.machineTold(0, 7));
            if (n == 3 || wrote < 0) due(wrote, Sentences.STATE);
            if (wrote < 0) continue;
            due(x.check(0), x.machineTold(0, 3) == 1 ? Sentences.NONE : Sentences.STATE);
        }
    }

    private static void joined() {
        says("machines joined one behind the other, side by side, fed back;");
        Random random = new Random(10);
        int tried = 0;
        for (int drawn = 0; drawn < DRAWN; drawn++) {
            int unit = UNITS[drawn % 3];
            Bench x = new Bench();
            drawn(x, random, 0, drawn % 3, unit, 3);
            drawn(x, random, 0, drawn / 3 % 2, unit, 3);
            long[] above = polynomial(x, 0, 1), own = polynomial(x, 0, 0);
            long[] otherAbove = polynomial(x, 1, 1), otherOwn = polynomial(x, 1, 0);
            int side = x.side(0, 1);
            duePolynomial(x, side, 0, product(own, otherOwn));
            duePolynomial(x, side, 1, sum(product(above, otherOwn), product(own, otherAbove), 1));
            due(x.like(side, x.side(1, 0)), 1);
            int series = x.series(0, 1), other = x.series(1, 0);
            if (series < 0 || other < 0) continue;
            tried++;
            duePolynomial(x, series, 0, product(own, otherOwn));
            duePolynomial(x, series, 1, product(above, otherAbove));
            due(x.like(series, other), 1);
        }
        Sentences.holds("many drawn MACHINES can be joined", tried > DRAWN / 4);
    }

    private static void fedBack() {
        Random random = new Random(11);
        for (int drawn = 0; drawn < DRAWN; drawn++) {
            Bench x = new Bench();
            drawn(x, random, 0, drawn % 4, UNITS[drawn / 4 % 3], 1);
            x.set(0, 3, 0, 0, 0);
            for (int sign = -1; sign <= 1; sign += 2) {
                int loop = x.back(0, sign);
                duePolynomial(x, loop, 0, sum(polynomial(x, 0, 0), polynomial(x, 0, 1), -sign));
                duePolynomial(x, loop, 1, polynomial(x, 0, 1));
                due(x.like(x.back(loop, -sign), 0), 1);
            }
        }
    }

    private static void proofs() {
        says("rows of proofs written, altered, checked.");
        int[][] of = {{0, 0, 4, 0}, {0, 1, 4, 3}, {0, 2, 2, 1, 1, -1, 0}, {1, 2, 1, 0, 1, -1, -1}, {0, 2, 1, 2, 1, 0, 3}, {1, 1, 2, 1}};
        for (int[] numbers : of) {
            Bench x = new Bench();
            x.ofA(numbers[0], numbers[1], numbers[2], java.util.Arrays.copyOfRange(numbers, 3, numbers.length));
            int n = numbers[1], many = n * n + n * (n + 1) + 1;
            due(x.write(0), many);
            int asWritten = x.check(0);
            due(asWritten, x.machineTold(0, 3) == 1 ? Sentences.NONE : Sentences.STATE);
            for (int i = 0; i < many; i++) {
                long was = x.row(i);
                due(x.forge(i, was + 1), 1);
                due(x.check(0), i);
                due(x.forge(i, was), 1);
                due(x.check(0), asWritten);
            }
        }
    }

    // ---- not promised

    private static void heldInside() {
        says("How the state is held inside the object is free, as are the speed of each call, the text of toString and the behaviour of equals "
            + "and hashCode.");
        Bench x = Benches.rich();
        Sentences.holds("a text of it can be asked for", x.itself().toString() != null);
        Sentences.holds("it can be compared with nothing", !x.itself().equals(null));
        Sentences.holds("it is the same as itself", x.itself().equals(x.itself()) && x.itself().hashCode() == x.itself().hashCode());
        Sentences.holds("and all is as it was", Snapshot.of(x).equals(Snapshot.of(Benches.rich())));
    }

    private static void otherObjects() throws InterruptedException {
        says("Use of one object from several threads at once is not promised to be safe.");
        String alone = Snapshot.of(Benches.rich());
        Bench one = Benches.rich(), two = new Bench();
        two.made(1, 2, 4, 3, 2, 1, 0, -1, -2, -3, 3, 2);
        two.machineTold(0, 3);
        two.act(0, 2, 9);
        two.sheet(1, 1, 3);
        two.write(0);
        Sentences.holds("calls of another object change nothing", Snapshot.of(one).equals(alone));
        List<Thread> threads = new ArrayList<>();
        String[] seen = new String[8];
        for (int i = 0; i < seen.length; i++) {
            int place = i;
            threads.add(new Thread(() -> seen[place] = Snapshot.of(Benches.rich())));
        }
        for (Thread thread : threads) thread.start();
        for (Thread thread : threads) thread.join();
        for (String s : seen) Sentences.holds("an object to each thread is safe", alone.equals(s));
    }

    private static void tellingChangesNothing() {
        says("Nothing is promised beyond the answers and state changes described above, and nothing about an object after its 512th call.");
        for (int m = -1; m <= Benches.RICH_COUNT; m++) {
            int number = m;
            for (int what = 0; what <= 7; what++) {
                int k = what;
                changes(b -> b.machineTold(number, k));
                changes(b -> b.pulse(number, k, 1));
                changes(b -> b.own(number, k % 2, k / 2));
                changes(b -> b.run(number, k % 6, 6, 0));
                changes(b -> b.like(number, k));
                changes(b -> b.gain(number, k, -k, 1, k % 3, 0));
                changes(b -> b.energy(number, k / 4, k / 2 % 2, k % 2));
                changes(b -> b.soonest(number, k, 1, -k));
                changes(b -> b.table(number, k % 4, k / 4, 0));
                changes(b -> b.taken(number, k));
                changes(b -> b.row(k));
                changes(b -> b.trace(k));
                changes(b -> b.count(k));
            }
            changes(b -> b.check(number));
        }
    }

    /** Each call of the ones that change something, with the lines of Snapshot that it may change. */
    private static void changesOfTheirOwn() {
        changes(b -> b.set(Benches.STEPS_2, 0, 1, 0, 3), "machine 0");
        changes(b -> b.set(Benches.STEPS_2, 3, 1, 0, 3), "machine 0");
        changes(b -> b.set(Benches.FLOW_1, 2, 0, 0, 3), "machine 1");
        changes(b -> b.machine(1, 2, 4), "machines", "machine 9");
        changes(b -> b.series(Benches.STEPS_2, Benches.WIRE), "machines", "machine 9");
        changes(b -> b.side(Benches.LOOP_2, Benches.WIRE), "machines", "machine 9");
        changes(b -> b.back(Benches.STEPS_2, -1), "machines", "machine 9");
        changes(b -> b.part(Benches.STEPS_3, 5), "machines", "machine 9");
        changes(b -> b.drop(), "machines", "machine 8");
        changes(b -> b.write(Benches.FLOW_1), "rows");
        changes(b -> b.forge(3, 9), "rows");
        changes(b -> b.act(Benches.LOOP_2, 2, 1), "trace");
        changes(b -> b.act(Benches.LOOP_2, 3, 1), "trace");
        changes(b -> b.sheet(1, -1, 0), "sheet 1");
        changes(b -> b.sheet(3, 2, 4), "sheet 3");
        changes(b -> b.cell(2, 4, 2), "sheet 2");
        changes(b -> b.lay(Benches.STEPS_2, 1, 1, 3), "machine 0");
        changes(b -> b.lay(Benches.FLOW_0, 1, 1, 3));
        changes(b -> b.copy(1, 0, 1, 4, 3), "sheet 1");
        changes(b -> b.copy(1, 0, 1, 4, 0));
    }

    private static void changes(ToLongFunction<Bench> call, String... lines) {
        Bench x = Benches.rich();
        call.applyAsLong(x);
        String text = Bench.lastCall();
        List<String> before = List.of(Snapshot.of(Benches.rich()).split("\n"));
        List<String> after = List.of(Snapshot.of(x).split("\n"));
        List<String> changed = new ArrayList<>();
        for (String line : before) if (!after.contains(line)) changed.add(nameOf(line));
        for (String line : after) if (!before.contains(line) && !changed.contains(nameOf(line))) changed.add(nameOf(line));
        changed.sort(null);
        List<String> want = new ArrayList<>(List.of(lines));
        want.sort(null);
        Sentences.holds(text + " changes just " + want + ", it changed " + changed, changed.equals(want));
    }

    /** The first word of a line of Snapshot, and for MACHINES and SHEETS the number behind it. */
    private static String nameOf(String line) {
        String[] words = line.split("[ :]");
        return words[0].equals("machine") || words[0].equals("sheet") ? words[0] + " " + words[1] : words[0];
    }
}
