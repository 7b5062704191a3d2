import java.util.ArrayList;
import java.util.List;

/** A second bench for the tests: the same promises by other ways, with no care for speed or room. */
final class Oracle {
    static final int NONE = -1, BAD = -2, STATE = -3, FULL = -4;
    static final long NO = -4611686018427387904L;

    private static final class Machine {
        int kind, n, unit;
        int[][] a;
        int[] b, c;
        int d;

        Machine(int kind, int n, int unit) {
            this.kind = kind;
            this.n = n;
            this.unit = unit;
            a = new int[n][n];
            b = new int[n];
            c = new int[n];
        }

        boolean isFlow() {
            return kind == 1;
        }
    }

    private final List<Machine> machines = new ArrayList<>();
    private long[] rows = new long[0];
    private final List<Integer> bodies = new ArrayList<>();
    private final int[] sorts = {-1, -1, -1, -1};
    private final long[][] sheets = new long[4][];

    private Machine at(int machine) {
        return machine >= 0 && machine < machines.size() ? machines.get(machine) : null;
    }

    private int add(Machine m) {
        if (machines.size() >= 12) return FULL;
        for (int[] row : m.a) for (int v : row) if (Math.abs(v) > 12) return FULL;
        for (int v : m.b) if (Math.abs(v) > 12) return FULL;
        for (int v : m.c) if (Math.abs(v) > 12) return FULL;
        if (Math.abs(m.d) > 12) return FULL;
        machines.add(m);
        return machines.size() - 1;
    }

    int machine(int kind, int n, int unit) {
        if (kind != 0 && kind != 1) return BAD;
        if (n < 0 || n > 3) return BAD;
        if (unit != 1 && unit != 2 && unit != 4) return BAD;
        return add(new Machine(kind, n, unit));
    }

    private static boolean hasPlace(Machine m, int table, int i, int k) {
        boolean row = i >= 0 && i < m.n;
        if (table == 0) return row && k >= 0 && k < m.n;
        if (table == 1 || table == 2) return row;
        return table == 3;
    }

    int set(int machine, int table, int i, int k, int v) {
        Machine m = at(machine);
        if (m == null || !hasPlace(m, table, i, k) || Math.abs((long) v) > 3) return BAD;
        if (m.kind > 1) return STATE;
        int was = table(machine, table, i, k);
        if (table == 0) m.a[i][k] = v;
        if (table == 1) m.b[i] = v;
        if (table == 2) m.c[i] = v;
        if (table == 3) m.d = v;
        return was + 10;
    }

    int table(int machine, int table, int i, int k) {
        Machine m = at(machine);
        if (m == null || !hasPlace(m, table, i, k)) return -100000;
        return table == 0 ? m.a[i][k] : table == 1 ? m.b[i] : table == 2 ? m.c[i] : m.d;
    }

    int series(int first, int second) {
        return join(first, second, true);
    }

    int side(int first, int second) {
        return join(first, second, false);
    }

    private int join(int first, int second, boolean isSeries) {
        Machine f = at(first), s = at(second);
        if (f == null || s == null) return BAD;
        if (f.isFlow() || s.isFlow() || f.unit != s.unit) return STATE;
        if (f.n + s.n > 3) return FULL;
        Machine m = new Machine(2, f.n + s.n, f.unit);
        for (int i = 0; i < m.n; i++) {
            boolean inFirst = i < f.n;
            for (int k = 0; k < m.n; k++) {
                if (inFirst && k < f.n) m.a[i][k] = f.a[i][k];
                if (!inFirst && k >= f.n) m.a[i][k] = s.a[i - f.n][k - f.n];
                if (isSeries && !inFirst && k < f.n) m.a[i][k] = f.unit * s.b[i - f.n] * f.c[k];
            }
            m.b[i] = inFirst ? f.b[i] : s.b[i - f.n] * (isSeries ? f.d : 1);
            m.c[i] = inFirst ? f.c[i] * (isSeries ? s.d : 1) : s.c[i - f.n];
        }
        m.d = isSeries ? f.d * s.d : f.d + s.d;
        return add(m);
    }

    int back(int machine, int sign) {
        Machine o = at(machine);
        if (o == null || (sign != 1 && sign != -1)) return BAD;
        if (o.isFlow() || o.d != 0) return STATE;
        Machine m = new Machine(2, o.n, o.unit);
        for (int i = 0; i < o.n; i++)
            for (int k = 0; k < o.n; k++) m.a[i][k] = o.a[i][k] + sign * o.unit * o.b[i] * o.c[k];
        m.b = o.b.clone();
        m.c = o.c.clone();
        return add(m);
    }

    int part(int machine, int states) {
        Machine o = at(machine);
        if (o == null || states < 0 || states >= (1 << o.n)) return BAD;
        if (o.isFlow()) return STATE;
        List<Integer> of = new ArrayList<>();
        for (int i = 0; i < o.n; i++) if ((states & (1 << i)) != 0) of.add(i);
        Machine m = new Machine(3, of.size(), o.unit);
        for (int i = 0; i < m.n; i++) {
            for (int k = 0; k < m.n; k++) m.a[i][k] = o.a[of.get(i)][of.get(k)];
            m.b[i] = o.b[of.get(i)];
            m.c[i] = o.c[of.get(i)];
        }
        m.d = o.d;
        return add(m);
    }

    int drop() {
        if (machines.isEmpty()) return STATE;
        machines.remove(machines.size() - 1);
        return machines.size();
    }

    int machineTold(int machine, int what) {
        Machine m = at(machine);
        if (m == null) return BAD;
        switch (what) {
            case 0: return m.kind;
            case 1: return m.n;
            case 2: return m.unit;
            case 3: return isSteady(m) ? 1 : 0;
            case 4: return reached(m);
            case 5: return seen(m);
            case 6: return least(m);
            case 7: return energyOf(m) == null ? 0 : 1;
            default: return BAD;
        }
    }

    /** a by a divisor, as fractions. */
    private static Ratio[][] a(Machine m, int divisor) {
        Ratio[][] g = Grid.zero(m.n, m.n);
        for (int i = 0; i < m.n; i++)
            for (int k = 0; k < m.n; k++) g[i][k] = Ratio.of(m.a[i][k]).by(Ratio.of(divisor));
        return g;
    }

    private static Ratio[] whole(int[] v) {
        Ratio[] r = new Ratio[v.length];
        for (int i = 0; i < v.length; i++) r[i] = Ratio.of(v[i]);
        return r;
    }

    private static Ratio[] onto(Ratio[][] a, Ratio[] x) {
        Ratio[] r = new Ratio[x.length];
        for (int i = 0; i < x.length; i++) {
            r[i] = Ratio.ZERO;
            for (int k = 0; k < x.length; k++) r[i] = r[i].plus(a[i][k].times(x[k]));
        }
        return r;
    }

    private static Ratio dot(Ratio[] x, Ratio[] y) {
        Ratio sum = Ratio.ZERO;
        for (int i = 0; i < x.length; i++) sum = sum.plus(x[i].times(y[i]));
        return sum;
    }

    private static Ratio[][] turned(Ratio[][] x) {
        Ratio[][] g = Grid.zero(x.length, x.length);
        for (int i = 0; i < x.length; i++) for (int k = 0; k < x.length; k++) g[i][k] = x[k][i];
        return g;
    }

    private static Ratio[][] lessA(Ratio z, Ratio[][] a) {
        Ratio[][] g = Grid.zero(a.length, a.length);
        for (int i = 0; i < a.length; i++)
            for (int k = 0; k < a.length; k++) g[i][k] = (i == k ? z : Ratio.ZERO).minus(a[i][k]);
        return g;
    }

    private static Ratio[] ownOf(Ratio[][] a) {
        Ratio[] places = new Ratio[a.length + 1];
        Ratio[] values = new Ratio[a.length + 1];
        for (int i = 0; i <= a.length; i++) {
            places[i] = Ratio.of(i);
            values[i] = Grid.determinant(lessA(places[i], a));
        }
        return Grid.interpolate(places, values);
    }

    private static Ratio[] aboveOf(Machine m) {
        Ratio[] places = new Ratio[m.n + 1];
        Ratio[] values = new Ratio[m.n + 1];
        for (int i = 0; i <= m.n; i++) {
            places[i] = Ratio.of(1000 + i);
            Ratio[][] g = lessA(places[i], a(m, 1));
            Ratio[] x = Grid.solve(g, whole(m.b), m.n);
            Ratio fraction = Ratio.of(m.d).plus(Ratio.of(m.unit).times(dot(whole(m.c), x)));
            values[i] = fraction.times(Grid.determinant(g));
        }
        return Grid.interpolate(places, values);
    }

    /** The P with P - A'PA = 1, or A'P + PA = -1 of a FLOW, over all pairs (i, k), without use of its symmetry. */
    private static Ratio[][] quadraticOf(Machine m) {
        int n = m.n;
        Ratio[][] at = turned(a(m, m.unit));
        Ratio[][] g = Grid.zero(n * n, n * n);
        Ratio[] right = new Ratio[n * n];
        for (int i = 0; i < n; i++) {
            for (int k = 0; k < n; k++) {
                right[n * i + k] = Ratio.of(i == k ? (m.isFlow() ? -1 : 1) : 0);
                for (int p = 0; p < n; p++) {
                    for (int q = 0; q < n; q++) {
                        Ratio v;
                        if (m.isFlow()) {
                            v = (q == k ? at[i][p] : Ratio.ZERO).plus(p == i ? at[k][q] : Ratio.ZERO);
                        } else {
                            v = Ratio.of(p == i && q == k ? 1 : 0).minus(at[i][p].times(at[k][q]));
                        }
                        g[n * i + k][n * p + q] = v;
                    }
                }
            }
        }
        Ratio[] solved = Grid.solve(g, right, n * n);
        if (solved == null) return null;
        Ratio[][] answer = Grid.zero(n, n);
        for (int i = 0; i < n; i++) System.arraycopy(solved, n * i, answer[i], 0, n);
        return answer;
    }

    /** Steady just if that P is there and above 0 in all directions. */
    private static boolean isSteady(Machine m) {
        Ratio[][] p = quadraticOf(m);
        if (p == null) return false;
        for (int size = 1; size <= m.n; size++) {
            Ratio[][] corner = Grid.zero(size, size);
            for (int i = 0; i < size; i++) System.arraycopy(p[i], 0, corner[i], 0, size);
            if (Grid.determinant(corner).sign() <= 0) return false;
        }
        return true;
    }

    /** By three states x told apart: one, the other, both together. */
    private static Ratio[] energyOf(Machine m) {
        if (m.n > 2) return null;
        if (m.n == 0) return new Ratio[0];
        int unknowns = m.n * (m.n + 1) / 2;
        int[][] states = {{1, 0}, {0, 1}, {1, 1}};
        Ratio[][] g = Grid.zero(unknowns, unknowns);
        Ratio[] right = new Ratio[unknowns];
        for (int e = 0; e < unknowns; e++) {
            Ratio[] x = new Ratio[m.n];
            for (int i = 0; i < m.n; i++) x[i] = Ratio.of(states[e][i]);
            Ratio[] y = onto(a(m, m.unit), x);
            right[e] = dot(x, x);
            for (int i = 0; i < m.n; i++) {
                for (int k = 0; k < m.n; k++) {
                    Ratio loss = m.isFlow()
                        ? Ratio.ZERO.minus(x[i].times(y[k]).plus(y[i].times(x[k])))
                        : x[i].times(x[k]).minus(y[i].times(y[k]));
                    g[e][i + k] = g[e][i + k].plus(loss);
                }
            }
        }
        return Grid.solve(g, right, unknowns);
    }

    private static int reached(Machine m) {
        Ratio[][] g = new Ratio[m.n][];
        Ratio[] x = whole(m.b);
        for (int i = 0; i < m.n; i++) {
            g[i] = x;
            x = onto(a(m, 1), x);
        }
        return Grid.rank(g);
    }

    private static int seen(Machine m) {
        Ratio[][] g = new Ratio[m.n][];
        Ratio[] x = whole(m.c);
        for (int i = 0; i < m.n; i++) {
            g[i] = x;
            x = onto(turned(a(m, 1)), x);
        }
        return Grid.rank(g);
    }

    private static int least(Machine m) {
        Ratio[][] g = Grid.zero(5, 5);
        for (int i = 0; i < 5; i++) for (int k = 0; k < 5; k++) g[i][k] = pulseOf(m, i + k + 1);
        return Grid.rank(g);
    }

    private static Ratio pulseOf(Machine m, int k) {
        if (k == 0) return Ratio.of(m.d);
        Ratio[] x = whole(m.b);
        for (int i = 1; i < k; i++) x = onto(a(m, m.unit), x);
        return dot(whole(m.c), x);
    }

    long own(int machine, int which, int i) {
        Machine m = at(machine);
        if (m == null || which < 0 || which > 1 || i < 0 || i > m.n) return NO;
        return (which == 0 ? ownOf(a(m, 1)) : aboveOf(m))[i].whole();
    }

    long pulse(int machine, int k, int what) {
        Machine m = at(machine);
        if (m == null || k < 0 || k > 8 || what < 0 || what > 1) return NO;
        return pulseOf(m, k).told(what);
    }

    long run(int machine, int t, int inputs, int what) {
        Machine m = at(machine);
        if (m == null || m.isFlow() || t < 0 || t > 5 || what < 0 || what > 1) return NO;
        if (inputs < 0 || inputs >= Math.pow(7, t + 1)) return NO;
        Ratio[] x = new Ratio[m.n];
        java.util.Arrays.fill(x, Ratio.ZERO);
        for (int tick = 0; ; tick++) {
            Ratio v = Ratio.of(inputs % 7 - 3);
            inputs /= 7;
            if (tick == t) return dot(whole(m.c), x).plus(Ratio.of(m.d).times(v)).told(what);
            x = onto(a(m, m.unit), x);
            for (int i = 0; i < m.n; i++) x[i] = x[i].plus(Ratio.of(m.b[i]).times(v));
        }
    }

    int like(int a, int b) {
        Machine one = at(a), two = at(b);
        if (one == null || two == null) return BAD;
        if (one.isFlow() != two.isFlow()) return 0;
        for (int k = 0; k <= 12; k++) if (!pulseOf(one, k).same(pulseOf(two, k))) return 0;
        return 1;
    }

    /** OWN's numbers change evenly with each gain: they are asked for no gain and for each gain alone. */
    long gain(int machine, int p0, int p1, int p2, int i, int what) {
        Machine m = at(machine);
        if (m == null || i < 0 || i >= m.n || what < 0 || what > 1 || reached(m) != m.n) return NO;
        int[] told = {p0, p1, p2};
        for (int j = 0; j < m.n; j++) if (told[j] < -100 || told[j] > 100) return NO;
        Ratio[] without = ownOf(a(m, 1));
        Ratio[][] g = Grid.zero(m.n, m.n);
        Ratio[] right = new Ratio[m.n];
        for (int k = 0; k < m.n; k++) {
            Ratio[][] led = a(m, 1);
            for (int j = 0; j < m.n; j++) led[j][k] = led[j][k].minus(Ratio.of((long) m.unit * m.b[j]));
            Ratio[] with = ownOf(led);
            for (int j = 0; j < m.n; j++) g[j][k] = with[j].minus(without[j]);
            right[k] = Ratio.of(told[k]).minus(without[k]);
        }
        return Grid.solve(g, right, m.n)[i].told(what);
    }

    int soonest(int machine, int x0, int x1, int x2) {
        Machine m = at(machine);
        if (m == null || m.isFlow()) return BAD;
        int[] told = {x0, x1, x2};
        Ratio[] x = new Ratio[m.n];
        for (int i = 0; i < m.n; i++) {
            if (told[i] < -9 || told[i] > 9) return BAD;
            x[i] = Ratio.of(told[i]);
        }
        List<Ratio[]> columns = new ArrayList<>();
        Ratio[] column = whole(m.b);
        for (int t = 0; t <= m.n; t++) {
            int without = Grid.rank(columns.toArray(new Ratio[0][]));
            columns.add(x);
            int with = Grid.rank(columns.toArray(new Ratio[0][]));
            if (with == without) return t;
            columns.set(t, column);
            column = onto(a(m, m.unit), column);
            x = onto(a(m, m.unit), x);
        }
        return NONE;
    }

    long energy(int machine, int i, int k, int what) {
        Machine m = at(machine);
        if (m == null || i < 0 || k < 0 || i >= m.n || k >= m.n || what < 0 || what > 1) return NO;
        Ratio[] p = energyOf(m);
        return p == null ? NO : p[i + k].told(what);
    }

    private static long[] proof(Machine m) {
        Ratio[] p = energyOf(m);
        if (p == null) return null;
        List<Long> numbers = new ArrayList<>();
        numbers.add((long) m.unit);
        for (int[] row : m.a) for (int v : row) numbers.add((long) v);
        for (Ratio r : p) {
            numbers.add(r.told(0));
            numbers.add(r.told(1));
        }
        long[] answer = new long[numbers.size()];
        for (int i = 0; i < answer.length; i++) answer[i] = numbers.get(i);
        return answer;
    }

    int write(int machine) {
        Machine m = at(machine);
        if (m == null) return BAD;
        long[] due = proof(m);
        if (due == null) return STATE;
        rows = due;
        return rows.length;
    }

    long row(int i) {
        return i < 0 || i >= rows.length ? NO : rows[i];
    }

    int forge(int i, long v) {
        if (i < 0 || i >= rows.length || v < -1000000000L || v > 1000000000L) return BAD;
        rows[i] = v;
        return 1;
    }

    int check(int machine) {
        Machine m = at(machine);
        if (m == null) return BAD;
        long[] due = proof(m);
        if (due == null) return 0;
        int differs = java.util.Arrays.mismatch(rows, due);
        if (differs >= 0) return differs;
        Ratio[] p = energyOf(m);
        if (m.n > 0 && p[0].sign() <= 0) return STATE;
        if (m.n == 2 && p[0].times(p[2]).minus(p[1].times(p[1])).sign() <= 0) return STATE;
        return NONE;
    }

    int act(int machine, int act, int x) {
        bodies.clear();
        Machine m = at(machine);
        if (m == null || act < 0 || act > 2) return 0;
        return body(m, machine, m.kind, act, x);
    }

    private static final int[] ABOVE = {-1, 0, 0, 2};
    private static final int[][] BODIES = {{10, 11, 12}, {20, 0, 0}, {0, 30, 31}, {40, 0, 41}};

    private int body(Machine m, int number, int kind, int act, int x) {
        int from = kind;
        while (BODIES[from][act] == 0) from = ABOVE[from];
        int up = ABOVE[from];
        bodies.add(BODIES[from][act]);
        switch (BODIES[from][act]) {
            case 10: return x * 2 + m.n;
            case 11: return body(m, number, m.kind, 0, x) - number;
            case 12: {
                int left = body(m, number, m.kind, 1, x);
                return left ^ body(m, number, m.kind, 0, x + m.unit);
            }
            case 20: return body(m, number, up, 0, x) + m.unit;
            case 30: return body(m, number, up, 1, x) * 3;
            case 31: return body(m, number, up, 2, x - 1);
            case 40: return body(m, number, up, 0, x) ^ number;
            default: {
                int left = body(m, number, m.kind, 1, x);
                return left + body(m, number, up, 2, x);
            }
        }
    }

    int trace(int i) {
        return i < 0 || i >= Math.min(40, bodies.size()) ? NONE : bodies.get(i);
    }

    int count(int what) {
        return what == 0 ? machines.size() : what == 1 ? rows.length : what == 2 ? bodies.size() : BAD;
    }

    int sheet(int sheet, int sort, int n) {
        if (sheet < 0 || sheet > 3 || sort < -1 || sort > 2) return BAD;
        if (sort >= 0 && n > 40) return BAD;
        if (sort >= 0 && n < 0) return -14;
        sorts[sheet] = sort;
        sheets[sheet] = sort < 0 ? null : new long[n];
        return 1;
    }

    int cell(int sheet, int i, int v) {
        if (sheet < 0 || sheet > 3) return BAD;
        if (sheets[sheet] == null) return -11;
        if (i < 0 || i >= sheets[sheet].length) return -12;
        sheets[sheet][i] = sorts[sheet] == 0 ? (v << 24) >> 24 : v;
        return 1;
    }

    int lay(int machine, int sheet, int sort, int i) {
        Machine m = at(machine);
        if (m == null || sheet < 0 || sheet > 3 || sort < 0 || sort > 2) return BAD;
        if (m.kind > 1) return STATE;
        if (sheets[sheet] != null && sorts[sheet] != sort) return -13;
        if (sheets[sheet] == null) return -11;
        if (m.n > 0 && (i < 0 || i > sheets[sheet].length - m.n * m.n)) return -12;
        for (int j = 0; j < m.n * m.n; j++) if (Math.abs(sheets[sheet][i + j]) > 3) return BAD;
        for (int r = 0; r < m.n; r++)
            for (int k = 0; k < m.n; k++) m.a[r][k] = (int) sheets[sheet][i + m.n * r + k];
        return 1;
    }

    int copy(int sheet, int i, int other, int j, int n) {
        if (sheet < 0 || sheet > 3 || other < 0 || other > 3) return BAD;
        if (sheets[sheet] == null || sheets[other] == null) return -11;
        if (sorts[sheet] != sorts[other]) return -13;
        if (n < 0 || i < 0 || j < 0) return -12;
        if (n > sheets[sheet].length - i || n > sheets[other].length - j) return -12;
        long[] before = sheets[sheet].clone();
        for (int k = 0; k < n; k++) sheets[other][j + k] = before[i + k];
        return n;
    }

    int taken(int machine, int k) {
        if (k < 0 || k > 3) return BAD;
        Machine m = at(machine);
        if (m == null) return -11;
        for (int kind = m.kind; kind >= 0; kind = ABOVE[kind]) if (kind == k) return m.n;
        return -13;
    }
}
