/**
 * A SteerBench whose calls are counted and written down. The document promises nothing behind an object's 512th
 * call, so a test that asks more of one object is wrong itself.
 */
final class Bench {
    static final int MOST_CALLS = 512;
    private static String lastName = "";
    private static long[] lastNumbers = {};

    private final SteerBench bench = new SteerBench();
    private int calls = 0;

    int calls() {
        return calls;
    }

    /** For what is no call of the document's face. */
    SteerBench itself() {
        return bench;
    }

    /** The text of the call that was made last, of any bench. */
    static String lastCall() {
        StringBuilder text = new StringBuilder(lastName).append('(');
        for (int i = 0; i < lastNumbers.length; i++) text.append(i == 0 ? "" : ", ").append(lastNumbers[i]);
        return text.append(')').toString();
    }

    private long said(long answer, String name, long... numbers) {
        calls++;
        if (calls > MOST_CALLS) throw new IllegalStateException("a test asks one object more than 512 times");
        lastName = name;
        lastNumbers = numbers;
        return answer;
    }

    /** The TABLES in one row: a by rows, b, c, d. Numbers that are 0 are left as they are at first. */
    int made(int kind, int n, int unit, int... v) {
        int m = machine(kind, n, unit);
        int at = 0;
        for (int i = 0; i < n; i++) for (int k = 0; k < n; k++) put(m, 0, i, k, v[at++]);
        for (int i = 0; i < n; i++) put(m, 1, i, 0, v[at++]);
        for (int i = 0; i < n; i++) put(m, 2, i, 0, v[at++]);
        put(m, 3, 0, 0, v[at]);
        return m;
    }

    /** A MACHINE with the numbers of a alone. */
    int ofA(int kind, int n, int unit, int... a) {
        return made(kind, n, unit, java.util.Arrays.copyOf(a, n * n + 2 * n + 1));
    }

    private void put(int m, int table, int i, int k, int v) {
        if (v != 0 && set(m, table, i, k, v) != 10) throw new IllegalStateException("a test's MACHINE is refused: " + lastCall());
    }

    int machine(int kind, int n, int unit) {
        return (int) said(bench.machine(kind, n, unit), "machine", kind, n, unit);
    }

    int set(int machine, int table, int i, int k, int v) {
        return (int) said(bench.set(machine, table, i, k, v), "set", machine, table, i, k, v);
    }

    int series(int first, int second) {
        return (int) said(bench.series(first, second), "series", first, second);
    }

    int side(int first, int second) {
        return (int) said(bench.side(first, second), "side", first, second);
    }

    int back(int machine, int sign) {
        return (int) said(bench.back(machine, sign), "back", machine, sign);
    }

    int part(int machine, int states) {
        return (int) said(bench.part(machine, states), "part", machine, states);
    }

    int drop() {
        return (int) said(bench.drop(), "drop");
    }

    int machineTold(int machine, int what) {
        return (int) said(bench.machineTold(machine, what), "machineTold", machine, what);
    }

    int table(int machine, int table, int i, int k) {
        return (int) said(bench.table(machine, table, i, k), "table", machine, table, i, k);
    }

    long own(int machine, int which, int i) {
        return said(bench.own(machine, which, i), "own", machine, which, i);
    }

    long pulse(int machine, int k, int what) {
        return said(bench.pulse(machine, k, what), "pulse", machine, k, what);
    }

    long run(int machine, int t, int inputs, int what) {
        return said(bench.run(machine, t, inputs, what), "run", machine, t, inputs, what);
    }

    int like(int a, int b) {
        return (int) said(bench.like(a, b), "like", a, b);
    }

    long gain(int machine, int p0, int p1, int p2, int i, int what) {
        return said(bench.gain(machine, p0, p1, p2, i, what), "gain", machine, p0, p1, p2, i, what);
    }

    int soonest(int machine, int x0, int x1, int x2) {
        return (int) said(bench.soonest(machine, x0, x1, x2), "soonest", machine, x0, x1, x2);
    }

    long energy(int machine, int i, int k, int what) {
        return said(bench.energy(machine, i, k, what), "energy", machine, i, k, what);
    }

    int write(int machine) {
        return (int) said(bench.write(machine), "write", machine);
    }

    long row(int i) {
        return said(bench.row(i), "row", i);
    }

    int forge(int i, long v) {
        return (int) said(bench.forge(i, v), "forge", i, v);
    }

    int check(int machine) {
        return (int) said(bench.check(machine), "check", machine);
    }

    int act(int machine, int act, int x) {
        return (int) said(bench.act(machine, act, x), "act", machine, act, x);
    }

    int trace(int i) {
        return (int) said(bench.trace(i), "trace", i);
    }

    int count(int what) {
        return (int) said(bench.count(what), "count", what);
    }

    int sheet(int sheet, int sort, int n) {
        return (int) said(bench.sheet(sheet, sort, n), "sheet", sheet, sort, n);
    }

    int cell(int sheet, int i, int v) {
        return (int) said(bench.cell(sheet, i, v), "cell", sheet, i, v);
    }

    int lay(int machine, int sheet, int sort, int i) {
        return (int) said(bench.lay(machine, sheet, sort, i), "lay", machine, sheet, sort, i);
    }

    int copy(int sheet, int i, int other, int j, int n) {
        return (int) said(bench.copy(sheet, i, other, j, n), "copy", sheet, i, other, j, n);
    }

    int taken(int machine, int k) {
        return (int) said(bench.taken(machine, k), "taken", machine, k);
    }
}
