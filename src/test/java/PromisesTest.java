/** Each promise by ordinary inputs, the edges that the document names, and wrong inputs. */
public final class PromisesTest {
    private static final int NONE = -1, BAD = -2, STATE = -3, FULL = -4;
    private static final int NOTHING = -11, OUTSIDE = -12, OTHER = -13, BELOW = -14, NO_NUMBER = -100000;
    private static final long NO = -4611686018427387904L;
    private static final int FAR = Integer.MAX_VALUE, DEEP = Integer.MIN_VALUE;
    private static int promise = 0;
    private static int asked = 0;
    private static int wrong = 0;

    private static void due(String call, long got, long want) {
        asked++;
        if (got != want) {
            wrong++;
            System.out.println("promise " + promise + ": " + call + " answered " + got + ", due is " + want);
        }
    }

    private static void dueTwo(String call, long above, long below, long wantAbove, long wantBelow) {
        due(call + " above", above, wantAbove);
        due(call + " below", below, wantBelow);
    }

    public static void main(String[] args) {
        aNewObject();
        machine();
        set();
        series();
        side();
        back();
        part();
        drop();
        machineTold();
        steady();
        table();
        own();
        pulse();
        run();
        like();
        gain();
        soonest();
        energy();
        write();
        row();
        forge();
        check();
        act();
        trace();
        count();
        sheet();
        cell();
        lay();
        copy();
        taken();
        System.out.println(asked + " answers asked, " + wrong + " not as due");
        if (wrong != 0) System.exit(1);
    }

    // ---- machines for the tests

    /** The TABLES in one row: a by rows, b, c, d. */
    private static int made(Bench x, int kind, int n, int unit, int... v) {
        int m = x.machine(kind, n, unit);
        int at = 0;
        for (int i = 0; i < n; i++) for (int k = 0; k < n; k++) x.set(m, 0, i, k, v[at++]);
        for (int i = 0; i < n; i++) x.set(m, 1, i, 0, v[at++]);
        for (int i = 0; i < n; i++) x.set(m, 2, i, 0, v[at++]);
        x.set(m, 3, 0, 0, v[at]);
        return m;
    }

    private static void dueTables(Bench x, int m, int n, int... v) {
        int at = 0;
        due("states", x.machineTold(m, 1), n);
        for (int i = 0; i < n; i++)
            for (int k = 0; k < n; k++) due("a(" + i + "," + k + ")", x.table(m, 0, i, k), v[at++]);
        for (int i = 0; i < n; i++) due("b(" + i + ")", x.table(m, 1, i, 0), v[at++]);
        for (int i = 0; i < n; i++) due("c(" + i + ")", x.table(m, 2, i, 0), v[at++]);
        due("d", x.table(m, 3, 0, 0), v[at]);
    }

    private static Bench full() {
        Bench x = new Bench();
        for (int i = 0; i < 12; i++) x.machine(0, 0, 1);
        return x;
    }

    // ---- the promises

    private static void aNewObject() {
        promise = 1;
        Bench x = new Bench();
        for (int what = 0; what <= 2; what++) due("count(" + what + ")", x.count(what), 0);
        due("row(0)", x.row(0), NO);
        due("trace(0)", x.trace(0), NONE);
        due("machineTold(0, 0)", x.machineTold(0, 0), BAD);
        due("drop()", x.drop(), STATE);
        for (int s = 0; s < 4; s++) due("cell(" + s + ", 0, 0)", x.cell(s, 0, 0), NOTHING);
        x.machine(0, 0, 1);
        x.write(0);
        x.act(0, 0, 0);
        x.sheet(0, 0, 1);
        Bench y = new Bench();
        for (int what = 0; what <= 2; what++) due("another's count(" + what + ")", y.count(what), 0);
        due("another's cell(0, 0, 0)", y.cell(0, 0, 0), NOTHING);
    }

    private static void machine() {
        promise = 2;
        Bench x = new Bench();
        int[][] bad = {{-1, 1, 1}, {2, 1, 1}, {3, 1, 1}, {0, -1, 1}, {0, 4, 1}, {0, 1, 0}, {0, 1, 3}, {0, 1, 5},
            {0, 1, 8}, {0, 1, -1}, {FAR, 1, 1}, {0, FAR, 1}, {0, DEEP, 1}, {0, 1, FAR}, {0, 1, DEEP}};
        for (int[] b : bad) due("machine(" + b[0] + ", " + b[1] + ", " + b[2] + ")", x.machine(b[0], b[1], b[2]), BAD);
        due("count(0)", x.count(0), 0);
        int number = 0;
        for (int kind = 0; kind <= 1; kind++) {
            for (int n = 0; n <= 3; n++) {
                int unit = 1 << n % 3;
                due("machine", x.machine(kind, n, unit), number);
                due("kind", x.machineTold(number, 0), kind);
                due("unit", x.machineTold(number, 2), unit);
                dueTables(x, number, n, new int[16]);
                number++;
            }
        }
        for (; number < 12; number++) due("machine", x.machine(0, 3, 4), number);
        due("the 13th", x.machine(0, 0, 1), FULL);
        due("the 13th, bad", x.machine(0, 0, 3), BAD);
        due("count(0)", x.count(0), 12);
        x.drop();
        due("machine after drop()", x.machine(1, 2, 2), 11);
    }

    private static void set() {
        promise = 3;
        Bench x = new Bench();
        x.machine(0, 2, 1);
        x.machine(1, 1, 1);
        x.machine(0, 0, 1);
        due("set(0, 0, 0, 1, 3)", x.set(0, 0, 0, 1, 3), 10);
        due("set(0, 0, 0, 1, -3)", x.set(0, 0, 0, 1, -3), 13);
        due("set(0, 0, 0, 1, 0)", x.set(0, 0, 0, 1, 0), 7);
        due("set(0, 0, 1, 0, 2)", x.set(0, 0, 1, 0, 2), 10);
        due("set(0, 1, 1, 99, -1)", x.set(0, 1, 1, 99, -1), 10);
        due("set(0, 2, 0, -7, 1)", x.set(0, 2, 0, -7, 1), 10);
        due("set(0, 3, -5, 77, 2)", x.set(0, 3, -5, 77, 2), 10);
        due("set(0, 3, FAR, DEEP, 1)", x.set(0, 3, FAR, DEEP, 1), 12);
        dueTables(x, 0, 2, 0, 0, 2, 0, 0, -1, 1, 0, 1);
        due("of a FLOW", x.set(1, 0, 0, 0, -2), 10);
        due("of a FLOW again", x.set(1, 0, 0, 0, 1), 8);
        due("without STATES", x.set(2, 3, 0, 0, 3), 10);
        int[][] bad = {{-1, 0, 0, 0, 1}, {3, 0, 0, 0, 1}, {0, -1, 0, 0, 1}, {0, 4, 0, 0, 1}, {0, 0, 2, 0, 1},
            {0, 0, 0, 2, 1}, {0, 0, -1, 0, 1}, {0, 0, 0, -1, 1}, {0, 1, 2, 0, 1}, {0, 2, -1, 0, 1}, {0, 0, 0, 0, 4},
            {0, 0, 0, 0, -4}, {0, 3, 0, 0, 4}, {2, 0, 0, 0, 1}, {2, 1, 0, 0, 1}, {2, 2, 0, 0, 1}, {0, 0, FAR, 0, 1},
            {0, 0, 0, FAR, 1}, {0, 1, DEEP, 0, 1}, {0, 0, 0, 0, DEEP}, {FAR, 3, 0, 0, 1}};
        for (int[] b : bad) due("bad set", x.set(b[0], b[1], b[2], b[3], b[4]), BAD);
        dueTables(x, 0, 2, 0, 0, 2, 0, 0, -1, 1, 0, 1);
        x.series(0, 2);
        x.part(0, 1);
        due("of a LOOP", x.set(3, 0, 0, 0, 1), STATE);
        due("of a PART", x.set(4, 3, 0, 0, 1), STATE);
        due("of a LOOP, a place that there is not", x.set(3, 0, 2, 0, 1), BAD);
        due("of a PART, a number beyond", x.set(4, 3, 0, 0, 4), BAD);
        dueTables(x, 4, 1, 0, 0, 1, 1);
    }

    private static void series() {
        promise = 4;
        Bench x = new Bench();
        made(x, 0, 1, 2, 1, 2, 3, 1);
        made(x, 0, 2, 2, -1, 2, 3, 0, 1, -2, 2, 1, 3);
        due("series(0, 1)", x.series(0, 1), 2);
        due("kind", x.machineTold(2, 0), 2);
        due("unit", x.machineTold(2, 2), 2);
        dueTables(x, 2, 3, 1, 0, 0, 6, -1, 2, -12, 3, 0, 2, 1, -2, 9, 2, 1, 3);
        due("series(1, 0)", x.series(1, 0), 3);
        dueTables(x, 3, 3, -1, 2, 0, 3, 0, 0, 8, 4, 1, 1, -2, 6, 2, 1, 3, 3);
        x.set(0, 0, 0, 0, 3);
        x.set(1, 3, 0, 0, 0);
        dueTables(x, 2, 3, 1, 0, 0, 6, -1, 2, -12, 3, 0, 2, 1, -2, 9, 2, 1, 3);
        due("of one with itself", x.series(0, 0), 4);
        dueTables(x, 4, 2, 3, 0, 12, 3, 2, 2, 3, 3, 1);
        due("of PART", x.part(4, 1), 5);
        due("of PART and LOOP", x.series(5, 4), 6);
        due("kind of that", x.machineTold(6, 0), 2);

        joinRefused(true);
        Bench y = new Bench();
        made(y, 0, 1, 4, 0, 3, 1, 0);
        made(y, 0, 1, 4, 0, 2, 2, 0);
        made(y, 0, 1, 4, 0, -3, 1, 3);
        due("12 fits", y.series(0, 0), 3);
        due("a is 12", y.table(3, 0, 1, 0), 12);
        due("-12 fits", y.series(0, 2), 4);
        due("a is -12", y.table(4, 0, 1, 0), -12);
        due("16 does not", y.series(1, 1), FULL);
        due("-24 does not", y.series(1, 2), FULL);
        made(y, 0, 0, 4, 3);
        due("d 9", y.series(5, 5), 6);
        due("d 27", y.series(6, 5), FULL);
        due("c 9", y.series(2, 5), 7);
        due("c", y.table(7, 2, 0, 0), 3);
        due("b -9", y.series(5, 2), 8);
        due("b", y.table(8, 1, 0, 0), -9);
        due("b -27", y.series(6, 2), FULL);
        due("c 18", y.series(1, 6), FULL);
        due("count(0)", y.count(0), 9);
    }

    /** What series() and side() refuse alike. */
    private static void joinRefused(boolean isSeries) {
        Bench x = new Bench();
        x.machine(0, 2, 1);
        x.machine(1, 2, 1);
        x.machine(0, 2, 2);
        x.machine(0, 1, 1);
        x.machine(0, 0, 1);
        int[][] refused = {{-1, 0, BAD}, {0, -1, BAD}, {5, 0, BAD}, {0, 5, BAD}, {1, 5, BAD}, {FAR, DEEP, BAD},
            {1, 0, STATE}, {0, 1, STATE}, {1, 1, STATE}, {0, 2, STATE}, {2, 3, STATE}, {0, 0, FULL}, {2, 2, FULL}};
        for (int[] r : refused)
            due("join " + r[0] + " " + r[1], isSeries ? x.series(r[0], r[1]) : x.side(r[0], r[1]), r[2]);
        due("count(0)", x.count(0), 5);
        due("3 STATES", isSeries ? x.series(0, 3) : x.side(0, 3), 5);
        due("no STATES", isSeries ? x.series(4, 4) : x.side(4, 4), 6);
        due("states", x.machineTold(6, 1), 0);
        Bench y = full();
        due("12 MACHINES", isSeries ? y.series(0, 0) : y.side(0, 0), FULL);
        due("12 MACHINES, BAD", isSeries ? y.series(0, 12) : y.side(0, 12), BAD);
        y.drop();
        y.machine(0, 0, 2);
        due("12 MACHINES, STATE", isSeries ? y.series(0, 11) : y.side(0, 11), STATE);
        due("count(0)", y.count(0), 12);
    }

    private static void side() {
        promise = 5;
        Bench x = new Bench();
        made(x, 0, 1, 2, 1, 2, 3, 1);
        made(x, 0, 2, 2, -1, 2, 3, 0, 1, -2, 2, 1, 3);
        due("side(0, 1)", x.side(0, 1), 2);
        due("kind", x.machineTold(2, 0), 2);
        due("unit", x.machineTold(2, 2), 2);
        dueTables(x, 2, 3, 1, 0, 0, 0, -1, 2, 0, 3, 0, 2, 1, -2, 3, 2, 1, 4);
        due("side(1, 0)", x.side(1, 0), 3);
        dueTables(x, 3, 3, -1, 2, 0, 3, 0, 0, 0, 0, 1, 1, -2, 2, 2, 1, 3, 4);
        x.set(0, 1, 0, 0, 0);
        dueTables(x, 2, 3, 1, 0, 0, 0, -1, 2, 0, 3, 0, 2, 1, -2, 3, 2, 1, 4);
        joinRefused(false);
        Bench y = new Bench();
        made(y, 0, 0, 1, 3);
        y.side(0, 0);
        due("d 12", y.side(1, 1), 2);
        due("d", y.table(2, 3, 0, 0), 12);
        due("d 15", y.side(2, 0), FULL);
        made(y, 0, 0, 1, -3);
        y.side(3, 3);
        due("d -12", y.side(4, 4), 5);
        due("d -15", y.side(5, 3), FULL);
    }

    private static void back() {
        promise = 6;
        Bench x = new Bench();
        made(x, 0, 2, 2, 1, 2, 3, -1, 1, -2, 2, 1, 0);
        due("back(0, 1)", x.back(0, 1), 1);
        due("kind", x.machineTold(1, 0), 2);
        due("unit", x.machineTold(1, 2), 2);
        dueTables(x, 1, 2, 5, 4, -5, -5, 1, -2, 2, 1, 0);
        due("back(0, -1)", x.back(0, -1), 2);
        dueTables(x, 2, 2, -3, 0, 11, 3, 1, -2, 2, 1, 0);
        due("back(1, -1)", x.back(1, -1), 3);
        dueTables(x, 3, 2, 1, 2, 3, -1, 1, -2, 2, 1, 0);
        due("19 is beyond", x.back(2, -1), FULL);
        due("count(0)", x.count(0), 4);
        for (int sign : new int[] {0, 2, -2, FAR, DEEP}) due("back(0, " + sign + ")", x.back(0, sign), BAD);
        due("back(4, 1)", x.back(4, 1), BAD);
        due("back(-1, 1)", x.back(-1, 1), BAD);
        made(x, 1, 1, 1, 0, 0, 0, 0);
        due("a FLOW", x.back(4, 1), STATE);
        due("a FLOW, sign", x.back(4, 0), BAD);
        x.set(0, 3, 0, 0, -1);
        due("d is not 0", x.back(0, 1), STATE);
        x.set(0, 3, 0, 0, 0);
        x.set(0, 0, 0, 0, 0);
        x.set(0, 1, 0, 0, 3);
        x.set(0, 2, 0, 0, 2);
        x.set(0, 1, 1, 0, 0);
        due("12 fits", x.back(0, 1), 5);
        due("a", x.table(5, 0, 0, 0), 12);
        due("-12 fits", x.back(0, -1), 6);
        due("a", x.table(6, 0, 0, 0), -12);
        x.set(0, 0, 0, 0, 1);
        due("13 does not", x.back(0, 1), FULL);
        Bench y = full();
        due("12 MACHINES", y.back(0, 1), FULL);
        y.set(0, 3, 0, 0, 1);
        due("12 MACHINES, d", y.back(0, 1), STATE);
    }

    private static void part() {
        promise = 7;
        Bench x = new Bench();
        made(x, 0, 3, 4, 1, 2, 3, -1, -2, -3, 3, 2, 1, 1, 2, 3, -1, -2, -3, 2);
        due("part(0, 5)", x.part(0, 5), 1);
        due("kind", x.machineTold(1, 0), 3);
        due("unit", x.machineTold(1, 2), 4);
        dueTables(x, 1, 2, 1, 3, 3, 1, 1, 3, -1, -3, 2);
        due("part(0, 6)", x.part(0, 6), 2);
        dueTables(x, 2, 2, -2, -3, 2, 1, 2, 3, -2, -3, 2);
        due("part(0, 0)", x.part(0, 0), 3);
        dueTables(x, 3, 0, 2);
        due("part(0, 7)", x.part(0, 7), 4);
        dueTables(x, 4, 3, 1, 2, 3, -1, -2, -3, 3, 2, 1, 1, 2, 3, -1, -2, -3, 2);
        due("of a PART", x.part(1, 2), 5);
        dueTables(x, 5, 1, 1, 3, -3, 2);
        x.set(0, 0, 0, 0, 0);
        dueTables(x, 1, 2, 1, 3, 3, 1, 1, 3, -1, -3, 2);
        int[][] bad = {{0, 8}, {0, -1}, {0, 9}, {1, 4}, {3, 1}, {6, 0}, {-1, 0}, {0, FAR}, {0, DEEP}};
        for (int[] b : bad) due("part(" + b[0] + ", " + b[1] + ")", x.part(b[0], b[1]), BAD);
        made(x, 1, 1, 1, 0, 0, 0, 0);
        due("a FLOW", x.part(6, 1), STATE);
        due("a FLOW, bits of others", x.part(6, 2), BAD);
        due("count(0)", x.count(0), 7);
        Bench y = full();
        due("12 MACHINES", y.part(0, 0), FULL);
        due("12 MACHINES, bits", y.part(0, 1), BAD);
    }

    private static void drop() {
        promise = 8;
        Bench x = new Bench();
        due("none", x.drop(), STATE);
        x.machine(0, 1, 1);
        x.machine(0, 2, 2);
        x.series(0, 0);
        due("drop()", x.drop(), 2);
        due("it is gone", x.machineTold(2, 0), BAD);
        due("the others stay", x.machineTold(1, 1), 2);
        due("drop()", x.drop(), 1);
        x.set(0, 0, 0, 0, 3);
        due("drop()", x.drop(), 0);
        due("drop()", x.drop(), STATE);
        due("machine", x.machine(0, 1, 1), 0);
        due("its numbers are its own", x.table(0, 0, 0, 0), 0);
    }

    private static void machineTold() {
        promise = 9;
        Bench x = new Bench();
        made(x, 0, 3, 4, 1, 1, 0, 0, 1, 0, 0, 0, 2, 0, 1, 0, 1, 0, 0, 0);
        int[] told = {0, 3, 4, 1, 2, 2, 2, 0};
        for (int what = 0; what < 8; what++) due("machineTold(0, " + what + ")", x.machineTold(0, what), told[what]);
        due("what 8", x.machineTold(0, 8), BAD);
        due("what -1", x.machineTold(0, -1), BAD);
        due("none such", x.machineTold(1, 0), BAD);
        due("none such", x.machineTold(-1, 3), BAD);
        due("none such", x.machineTold(FAR, 3), BAD);
        made(x, 0, 2, 1, 1, 0, 0, 2, 1, 1, 1, 0, 0);
        told = new int[] {0, 2, 1, 0, 2, 1, 1, 0};
        for (int what = 0; what < 8; what++) due("machineTold(1, " + what + ")", x.machineTold(1, what), told[what]);
        made(x, 0, 2, 1, 1, 0, 0, 2, 1, 0, 0, 1, 3);
        told = new int[] {0, 2, 1, 0, 1, 1, 0, 0};
        for (int what = 0; what < 8; what++) due("machineTold(2, " + what + ")", x.machineTold(2, what), told[what]);
        made(x, 1, 0, 2, 3);
        told = new int[] {1, 0, 2, 1, 0, 0, 0, 1};
        for (int what = 0; what < 8; what++) due("machineTold(3, " + what + ")", x.machineTold(3, what), told[what]);
        made(x, 0, 3, 1, 0, 1, 0, 0, 0, 1, 0, 0, 0, 0, 0, 1, 1, 0, 0, 0);
        told = new int[] {0, 3, 1, 1, 3, 3, 3, 0};
        for (int what = 0; what < 8; what++) due("machineTold(4, " + what + ")", x.machineTold(4, what), told[what]);
        // b and a b free of one another in two of three places alone
        int[][] moves = {{0, 1}, {0, 2}, {1, 2}, {1, 0}, {2, 0}, {2, 1}};
        for (int[] move : moves) {
            Bench y = new Bench();
            y.machine(0, 3, 1);
            y.set(0, 1, move[0], 0, 2);
            y.set(0, 0, move[1], move[0], 3);
            y.set(0, 2, move[1], 0, -1);
            due("REACHED " + move[0] + move[1], y.machineTold(0, 4), 2);
            due("SEEN " + move[0] + move[1], y.machineTold(0, 5), 2);
            due("LEAST " + move[0] + move[1], y.machineTold(0, 6), 2);
        }
        // b and a b are one another's multiples, with no 0 among them
        made(x, 0, 3, 1, 1, 1, 0, 1, 1, 0, 1, 0, 1, 1, 1, 1, 0, 0, 0, 0);
        due("REACHED", x.machineTold(5, 4), 1);
        due("SEEN", x.machineTold(5, 5), 0);
    }

    /** On the circle, on 0, just within, with roots that are no real numbers. */
    private static void steady() {
        int[][] ticks = {
            {1, 1, 0, 1}, {1, 1, 1, 0}, {1, 2, 1, 1}, {1, 2, 2, 0}, {1, 2, -2, 0}, {1, 4, 3, 1}, {1, 1, -3, 0},
            {2, 1, 0, 1, -1, 0, 0}, {2, 2, 0, 1, -1, 0, 1}, {2, 1, 1, -1, 1, 0, 0}, {2, 2, 1, -1, 1, 0, 1},
            {2, 2, 0, 2, -2, 0, 0}, {2, 2, 1, 1, -3, 0, 1}, {2, 2, 1, 2, -3, 1, 0}, {2, 2, 1, 1, 2, 0, 0},
            {2, 4, 3, 3, 0, 3, 1}, {2, 4, 3, 1, 1, 3, 0}, {2, 1, 2, -2, 2, -2, 1}, {2, 1, 0, 3, 0, 0, 1},
            {3, 1, 0, 1, 0, 0, 0, 1, 1, 0, 0, 0}, {3, 2, 0, 1, 0, 0, 0, 1, 1, 0, 0, 1},
            {3, 1, 0, 3, 3, 0, 0, 3, 0, 0, 0, 1}, {3, 4, 3, 3, 3, 3, 3, 3, 3, 3, 3, 0},
            {3, 4, 1, 1, 1, 1, 1, 1, 1, 1, 1, 1}, {3, 4, 2, 2, 0, -2, 2, 0, 0, 0, 3, 1},
            {3, 4, 3, 3, 0, -3, 3, 0, 0, 0, 1, 0}};
        for (int[] t : ticks) dueSteady(0, t);
        int[][] flows = {
            {1, 1, 0, 0}, {1, 1, -1, 1}, {1, 4, 1, 0}, {2, 1, 0, 1, -1, 0, 0}, {2, 1, 0, 1, -1, -1, 1},
            {2, 1, -1, 1, -1, -1, 1}, {2, 1, -1, 3, 1, -1, 0}, {2, 2, -3, 1, 0, 1, 0}, {2, 2, 0, 1, 0, -3, 0},
            {3, 1, 0, 1, 0, 0, 0, 1, -1, -1, -1, 0}, {3, 1, 0, 1, 0, 0, 0, 1, -1, -2, -1, 1},
            {3, 1, 0, 1, 0, 0, 0, 1, -2, -1, -1, 0}, {3, 2, -1, 0, 0, 0, -1, 0, 0, 0, -1, 1},
            {3, 1, 0, 1, 0, 0, 0, 1, 0, -1, -1, 0}, {3, 1, 0, 1, 0, 0, 0, 1, -1, 3, -1, 0}};
        for (int[] f : flows) dueSteady(1, f);
    }

    /** n, u, a by rows, whether steady. */
    private static void dueSteady(int kind, int[] told) {
        Bench x = new Bench();
        int n = told[0];
        x.machine(kind, n, told[1]);
        for (int i = 0; i < n * n; i++) x.set(0, 0, i / n, i % n, told[2 + i]);
        due("steady " + kind + java.util.Arrays.toString(told), x.machineTold(0, 3), told[told.length - 1]);
    }

    private static void table() {
        promise = 10;
        Bench x = new Bench();
        made(x, 0, 2, 1, 1, 2, 3, -1, -2, -3, 2, 1, 3);
        dueTables(x, 0, 2, 1, 2, 3, -1, -2, -3, 2, 1, 3);
        due("of b k does not matter", x.table(0, 1, 1, 55), -3);
        due("of c k does not matter", x.table(0, 2, 0, DEEP), 2);
        due("of d neither does", x.table(0, 3, -4, FAR), 3);
        int[][] bad = {{-1, 0, 0, 0}, {1, 0, 0, 0}, {1, 3, 0, 0}, {0, -1, 0, 0}, {0, 4, 0, 0}, {0, 0, 2, 0},
            {0, 0, 0, 2}, {0, 0, -1, 0}, {0, 0, 0, -1}, {0, 1, 2, 0}, {0, 2, 2, 0}, {0, 1, -1, 0}, {0, 0, FAR, FAR}};
        for (int[] b : bad) due("table", x.table(b[0], b[1], b[2], b[3]), NO_NUMBER);
        x.machine(0, 0, 1);
        for (int table = 0; table < 3; table++) due("without STATES", x.table(1, table, 0, 0), NO_NUMBER);
        due("without STATES d", x.table(1, 3, 0, 0), 0);
    }

    private static void own() {
        promise = 11;
        Bench x = new Bench();
        made(x, 0, 3, 2, 1, 0, 0, 0, 2, 0, 0, 0, 3, 1, 1, 1, 1, 1, 1, 1);
        long[] own = {-6, 11, -6, 1};
        // (z-1)(z-2)(z-3) + 2 ((z-2)(z-3) + (z-1)(z-3) + (z-1)(z-2))
        long[] above = {16, -13, 0, 1};
        for (int i = 0; i <= 3; i++) {
            due("own(0, 0, " + i + ")", x.own(0, 0, i), own[i]);
            due("own(0, 1, " + i + ")", x.own(0, 1, i), above[i]);
        }
        made(x, 1, 2, 4, 1, 2, 3, -1, 1, 0, 0, 1, -2);
        // OWN z z - 7; ABOVE -2 (z z - 7) + 4 times 3
        due("own", x.own(1, 0, 0), -7);
        due("own", x.own(1, 0, 1), 0);
        due("own", x.own(1, 0, 2), 1);
        due("above", x.own(1, 1, 0), 26);
        due("above", x.own(1, 1, 1), 0);
        due("above", x.own(1, 1, 2), -2);
        made(x, 0, 0, 1, 3);
        due("without STATES", x.own(2, 0, 0), 1);
        due("without STATES", x.own(2, 1, 0), 3);
        int[][] bad = {{0, 0, 4}, {0, 1, 4}, {0, 0, -1}, {1, 0, 3}, {2, 0, 1}, {0, 2, 0}, {0, -1, 0}, {3, 0, 0},
            {-1, 0, 0}, {0, 0, FAR}, {FAR, 0, 0}, {0, DEEP, 0}};
        for (int[] b : bad) due("own", x.own(b[0], b[1], b[2]), NO);
    }

    private static void pulse() {
        promise = 12;
        Bench x = new Bench();
        made(x, 0, 1, 4, 3, 2, -1, 3);
        dueTwo("pulse 0", x.pulse(0, 0, 0), x.pulse(0, 0, 1), 3, 1);
        dueTwo("pulse 1", x.pulse(0, 1, 0), x.pulse(0, 1, 1), -2, 1);
        dueTwo("pulse 2", x.pulse(0, 2, 0), x.pulse(0, 2, 1), -3, 2);
        dueTwo("pulse 3", x.pulse(0, 3, 0), x.pulse(0, 3, 1), -9, 8);
        dueTwo("pulse 8", x.pulse(0, 8, 0), x.pulse(0, 8, 1), -2187, 8192);
        made(x, 1, 2, 1, 0, 1, -1, 0, 0, 1, 1, 0, 0);
        long[] turn = {0, 0, 1, 0, -1, 0, 1, 0, -1};
        for (int k = 0; k <= 8; k++) dueTwo("pulse " + k, x.pulse(1, k, 0), x.pulse(1, k, 1), turn[k], 1);
        int[][] bad = {{0, 9, 0}, {0, -1, 0}, {0, 0, 2}, {0, 0, -1}, {2, 0, 0}, {-1, 0, 0}, {0, FAR, 0}, {0, DEEP, 1}};
        for (int[] b : bad) due("pulse", x.pulse(b[0], b[1], b[2]), NO);
    }

    private static void run() {
        promise = 13;
        Bench x = new Bench();
        made(x, 0, 1, 2, 1, 1, 2, 1);
        // v 1, -2, 3: x(1) = 1, x(2) = 1/2 - 2, y(2) = -3 + 3
        int inputs = 4 + 7 * 1 + 49 * 6;
        dueTwo("run 0", x.run(0, 0, 4, 0), x.run(0, 0, 4, 1), 1, 1);
        dueTwo("run 1", x.run(0, 1, 11, 0), x.run(0, 1, 11, 1), 0, 1);
        dueTwo("run 2", x.run(0, 2, inputs, 0), x.run(0, 2, inputs, 1), 0, 1);
        // v(0) = 1 alone: y(5) = 2 by 16
        int ones = 4 + 3 * (7 + 49 + 343 + 2401 + 16807);
        dueTwo("run 5", x.run(0, 5, ones, 0), x.run(0, 5, ones, 1), 1, 8);
        // v -3 .. -3
        dueTwo("run 0 of 0", x.run(0, 0, 0, 0), x.run(0, 0, 0, 1), -3, 1);
        dueTwo("run 5 of 0", x.run(0, 5, 0, 0), x.run(0, 5, 0, 1), -117, 8);
        Bench y = new Bench();
        made(y, 0, 2, 2, 1, -1, 2, 3, 1, 2, 3, -1, 2);
        // v 3, -1, 2, 1: x 0 0, 3 6, -5/2 10, -17/4 33/2
        int four = 6 + 7 * 2 + 49 * 5 + 343 * 4;
        dueTwo("y(1)", y.run(0, 1, 20, 0), y.run(0, 1, 20, 1), 1, 1);
        dueTwo("y(2)", y.run(0, 2, four - 1372, 0), y.run(0, 2, four - 1372, 1), -27, 2);
        dueTwo("y(3)", y.run(0, 3, four, 0), y.run(0, 3, four, 1), -109, 4);
        int limit = 7;
        for (int t = 0; t <= 5; t++) {
            due("inputs at t " + t, x.run(0, t, limit - 1, 1) == NO ? 1 : 0, 0);
            due("inputs beyond at t " + t, x.run(0, t, limit, 0), NO);
            limit *= 7;
        }
        int[][] bad = {{0, 6, 0, 0}, {0, -1, 0, 0}, {0, 0, -1, 0}, {0, 0, 0, 2}, {0, 0, 0, -1}, {1, 0, 0, 0},
            {-1, 0, 0, 0}, {0, FAR, 0, 0}, {0, 5, FAR, 0}, {0, 5, DEEP, 0}};
        for (int[] b : bad) due("run", x.run(b[0], b[1], b[2], b[3]), NO);
        x.machine(1, 1, 1);
        due("a FLOW", x.run(1, 0, 3, 0), NO);
        x.back(0, 1);
        x.part(0, 1);
        due("a PART", x.run(2, 0, 4, 0), 1);
    }

    private static void like() {
        promise = 14;
        Bench x = new Bench();
        made(x, 0, 1, 2, 1, 1, 2, 1);
        made(x, 0, 2, 4, 2, 0, 3, 1, 1, 3, 2, 0, 1);
        made(x, 0, 1, 1, 1, 1, 2, 1);
        made(x, 1, 1, 2, 1, 2, 1, 1);
        made(x, 1, 2, 4, 2, 3, 0, -1, 2, 0, 1, 3, 1);
        due("like(0, 0)", x.like(0, 0), 1);
        due("unlike UNITS and STATES", x.like(0, 1), 1);
        due("turned about", x.like(1, 0), 1);
        due("a by u differs", x.like(0, 2), 0);
        due("a FLOW and none", x.like(0, 3), 0);
        due("two FLOWS", x.like(3, 4), 1);
        x.set(1, 3, 0, 0, 0);
        due("d differs", x.like(0, 1), 0);
        // alike up to PULSE of 5, the 6th differs
        made(x, 0, 3, 1, 0, 1, 0, 0, 0, 1, 1, 0, 0, 0, 0, 1, 1, 0, 0, 0);
        made(x, 0, 3, 1, 0, 1, 0, 0, 0, 1, 0, 0, 0, 0, 0, 1, 1, 0, 0, 0);
        due("pulse 6 differs", x.like(5, 6), 0);
        due("pulse 5", x.pulse(5, 5, 0), x.pulse(6, 5, 0));
        due("like(0, 7)", x.like(0, 7), BAD);
        due("like(-1, 0)", x.like(-1, 0), BAD);
        due("like(FAR, FAR)", x.like(FAR, FAR), BAD);
        Bench y = new Bench();
        y.machine(0, 0, 1);
        y.machine(0, 3, 4);
        due("nothing comes out of both", y.like(0, 1), 1);
        made(y, 0, 1, 1, 0, 1, 1, 0);
        due("pulse 1 alone differs", y.like(0, 2), 0);
        due("pulse 1 alone differs", y.like(2, 1), 0);
    }

    private static void gain() {
        promise = 15;
        Bench x = new Bench();
        made(x, 0, 1, 2, 3, -2, 0, 0);
        // 3 + 4 k = -p0
        dueTwo("one STATE", x.gain(0, 5, 999, -999, 0, 0), x.gain(0, 5, 999, -999, 0, 1), -2, 1);
        dueTwo("one STATE", x.gain(0, -1, FAR, DEEP, 0, 0), x.gain(0, -1, FAR, DEEP, 0, 1), -1, 2);
        made(x, 0, 2, 1, 0, 1, 0, 0, 0, 1, 0, 0, 0);
        for (int p = -100; p <= 100; p += 100) {
            due("k(0)", x.gain(1, p, 7, 0, 0, 0), p);
            due("k(1)", x.gain(1, 7, p, 1000, 1, 0), p);
        }
        made(x, 1, 3, 4, 0, 1, 0, 0, 0, 1, 1, 2, 3, 0, 0, 1, 0, 0, 0, 0);
        // the last row 1 2 3 becomes -p0 -p1 -p2 by 4 k less
        dueTwo("k(0)", x.gain(2, 5, 6, 8, 0, 0), x.gain(2, 5, 6, 8, 0, 1), 3, 2);
        dueTwo("k(1)", x.gain(2, 5, 6, 8, 1, 0), x.gain(2, 5, 6, 8, 1, 1), 2, 1);
        dueTwo("k(2)", x.gain(2, 5, 6, 8, 2, 0), x.gain(2, 5, 6, 8, 2, 1), 11, 4);
        made(x, 0, 3, 1, 1, 0, 0, 0, 2, 0, 0, 0, 3, 1, 1, 1, 0, 0, 0, 0);
        // roots all 0: k(i) = the product of root less 0 over the product of root less the others
        dueTwo("k(0)", x.gain(3, 0, 0, 0, 0, 0), x.gain(3, 0, 0, 0, 0, 1), 1, 2);
        dueTwo("k(1)", x.gain(3, 0, 0, 0, 1, 0), x.gain(3, 0, 0, 0, 1, 1), -8, 1);
        dueTwo("k(2)", x.gain(3, 0, 0, 0, 2, 0), x.gain(3, 0, 0, 0, 2, 1), 27, 2);
        Bench y = new Bench();
        made(y, 0, 2, 2, 1, 2, 3, -1, 2, 1, 0, 0, 0);
        // less 4 k(0) 4 k(1) / 2 k(0) 2 k(1): the sum of roots 5, their product 3
        dueTwo("k(0)", y.gain(0, 3, -5, 0, 0, 0), y.gain(0, 3, -5, 0, 0, 1), -35, 12);
        dueTwo("k(1)", y.gain(0, 3, -5, 0, 1, 0), y.gain(0, 3, -5, 0, 1, 1), 10, 3);
        made(y, 0, 3, 4, 1, 2, -1, 3, -1, 2, -2, 1, 3, 2, 1, -3, 0, 0, 0, 0);
        long[] gains = {-13, -37, -131};
        for (int i = 0; i < 3; i++)
            dueTwo("k(" + i + ")", y.gain(1, 7, -3, 2, i, 0), y.gain(1, 7, -3, 2, i, 1), gains[i], 264);
        made(x, 0, 2, 1, 1, 0, 0, 2, 1, 0, 1, 1, 0);
        due("REACHED is 1", x.gain(4, 0, 0, 0, 0, 0), NO);
        x.machine(0, 0, 1);
        due("without STATES", x.gain(5, 0, 0, 0, 0, 0), NO);
        int[][] bad = {{1, 101, 0, 0, 0, 0}, {1, -101, 0, 0, 0, 0}, {1, 0, 101, 0, 0, 0}, {1, 0, -101, 0, 0, 0},
            {3, 0, 0, 101, 0, 0}, {3, 0, 0, -101, 0, 0}, {1, 0, 0, 0, 2, 0}, {1, 0, 0, 0, -1, 0}, {1, 0, 0, 0, 0, 2},
            {1, 0, 0, 0, 0, -1}, {6, 0, 0, 0, 0, 0}, {-1, 0, 0, 0, 0, 0}, {0, DEEP, 0, 0, 0, 0}, {0, 0, 0, 0, FAR, 0}};
        for (int[] b : bad) due("gain", x.gain(b[0], b[1], b[2], b[3], b[4], b[5]), NO);
    }

    private static void soonest() {
        promise = 16;
        Bench x = new Bench();
        made(x, 0, 3, 2, 0, 1, 0, 0, 0, 1, 1, 2, 3, 0, 0, 1, 0, 0, 0, 0);
        int[][] begun = {{0, 0, 0, 0}, {9, 0, 0, 1}, {-9, 9, 0, 2}, {0, 1, 0, 2}, {1, 2, 3, 3}, {0, 0, -9, 3}};
        for (int[] b : begun) due("soonest " + b[0] + b[1] + b[2], x.soonest(0, b[0], b[1], b[2]), b[3]);
        made(x, 0, 2, 1, 1, 0, 0, 0, 0, 1, 0, 0, 0);
        due("the first cannot be led", x.soonest(1, 1, 0, 0), NONE);
        due("the second falls to 0", x.soonest(1, 0, 5, 0), 1);
        due("others do not matter", x.soonest(1, 0, 0, 77), 0);
        made(x, 0, 2, 1, 0, 1, 0, 0, 0, 0, 0, 0, 0);
        due("without input, 2", x.soonest(2, 0, 1, 0), 2);
        due("without input, 1", x.soonest(2, 1, 0, 0), 1);
        made(x, 0, 1, 1, 2, 0, 0, 0);
        due("it never rests", x.soonest(3, 9, FAR, DEEP), NONE);
        due("it rests, others do not matter", x.soonest(3, 0, FAR, DEEP), 0);
        x.machine(0, 0, 4);
        due("without STATES", x.soonest(4, FAR, DEEP, 10), 0);
        made(x, 1, 1, 1, 0, 1, 0, 0);
        int[][] bad = {{5, 0, 0, 0}, {6, 0, 0, 0}, {-1, 0, 0, 0}, {0, 10, 0, 0}, {0, -10, 0, 0}, {0, 0, 10, 0},
            {0, 0, 0, 10}, {0, 0, 0, -10}, {1, 0, -10, 0}, {3, 10, 0, 0}, {0, DEEP, 0, 0}};
        for (int[] b : bad) due("soonest", x.soonest(b[0], b[1], b[2], b[3]), BAD);
    }

    private static void energy() {
        promise = 17;
        Bench x = new Bench();
        made(x, 0, 1, 2, 1, 0, 0, 0);
        dueTwo("P", x.energy(0, 0, 0, 0), x.energy(0, 0, 0, 1), 4, 3);
        made(x, 0, 1, 1, 3, 0, 0, 0);
        dueTwo("P below 0", x.energy(1, 0, 0, 0), x.energy(1, 0, 0, 1), -1, 8);
        made(x, 1, 1, 4, -3, 0, 0, 0);
        dueTwo("P of a FLOW", x.energy(2, 0, 0, 0), x.energy(2, 0, 0, 1), 2, 3);
        made(x, 0, 2, 1, 0, 1, 0, 0, 0, 0, 0, 0, 0);
        // x(0) becomes x(1), x(1) becomes 0: P = 1 0 0 2
        dueTwo("P(0,0)", x.energy(3, 0, 0, 0), x.energy(3, 0, 0, 1), 1, 1);
        dueTwo("P(0,1)", x.energy(3, 0, 1, 0), x.energy(3, 0, 1, 1), 0, 1);
        dueTwo("P(1,0)", x.energy(3, 1, 0, 0), x.energy(3, 1, 0, 1), 0, 1);
        dueTwo("P(1,1)", x.energy(3, 1, 1, 0), x.energy(3, 1, 1, 1), 2, 1);
        made(x, 1, 2, 1, -1, 0, 1, -1, 0, 0, 0, 0, 0);
        // -2 p + 2 q = -1, -2 q + r = 0, -2 r = -1
        dueTwo("P(0,0)", x.energy(4, 0, 0, 0), x.energy(4, 0, 0, 1), 3, 4);
        dueTwo("P(0,1)", x.energy(4, 0, 1, 0), x.energy(4, 0, 1, 1), 1, 4);
        dueTwo("P(1,0)", x.energy(4, 1, 0, 0), x.energy(4, 1, 0, 1), 1, 4);
        dueTwo("P(1,1)", x.energy(4, 1, 1, 0), x.energy(4, 1, 1, 1), 1, 2);
        dueEnergy(0, 4, new int[] {1, 2, 3, -1}, new long[] {416, 207, -16, 207, 112, 69});
        dueEnergy(1, 2, new int[] {-2, 1, -3, -1}, new long[] {1, 1, -1, 3, 2, 3});
        dueEnergy(0, 2, new int[] {3, 1, 1, -2}, new long[] {-4, 5, 4, 5, -24, 5});
        x.machine(0, 0, 1);
        x.machine(0, 3, 1);
        made(x, 0, 1, 2, -2, 0, 0, 0);
        x.machine(1, 2, 1);
        made(x, 0, 2, 1, 2, 0, 0, 0, 0, 0, 0, 0, 0);
        due("there is one", x.machineTold(9, 7), 1);
        made(x, 0, 2, 2, 1, 0, 0, 1, 0, 0, 0, 0, 0);
        due("without STATES", x.energy(5, 0, 0, 0), NO);
        due("3 STATES", x.energy(6, 0, 0, 0), NO);
        due("none", x.energy(7, 0, 0, 1), NO);
        due("none", x.energy(8, 0, 0, 1), NO);
        dueTwo("P(1,1)", x.energy(10, 1, 1, 0), x.energy(10, 1, 1, 1), 4, 3);
        int[][] bad = {{3, 2, 0, 0}, {3, 0, 2, 0}, {3, -1, 0, 0}, {3, 0, -1, 0}, {3, 2, -1, 0}, {0, 1, 0, 0}, {0, 0, 1, 0},
            {3, 0, 0, 2}, {3, 0, 0, -1}, {11, 0, 0, 0}, {-1, 0, 0, 0}, {3, FAR, FAR, 0}};
        for (int[] b : bad) due("energy", x.energy(b[0], b[1], b[2], b[3]), NO);
    }

    private static void dueEnergy(int kind, int unit, int[] a, long[] p) {
        Bench x = new Bench();
        x.machine(kind, 2, unit);
        for (int i = 0; i < 4; i++) x.set(0, 0, i / 2, i % 2, a[i]);
        for (int i = 0; i < 2; i++)
            for (int k = 0; k < 2; k++)
                dueTwo("P(" + i + "," + k + ")", x.energy(0, i, k, 0), x.energy(0, i, k, 1), p[2 * (i + k)], p[2 * (i + k) + 1]);
    }

    private static Bench written() {
        Bench x = new Bench();
        made(x, 1, 2, 1, -1, 0, 1, -1, 0, 0, 0, 0, 0);
        made(x, 0, 1, 2, 1, 0, 0, 0);
        x.machine(0, 0, 4);
        made(x, 0, 1, 1, 1, 0, 0, 0);
        return x;
    }

    private static final long[] PROOF = {1, -1, 0, 1, -1, 3, 4, 1, 4, 1, 2};

    private static void write() {
        promise = 18;
        Bench x = written();
        due("write(0)", x.write(0), 11);
        for (int i = 0; i < 11; i++) due("row(" + i + ")", x.row(i), PROOF[i]);
        due("no ENERGY", x.write(3), STATE);
        due("none such", x.write(4), BAD);
        due("none such", x.write(-1), BAD);
        due("ROWS stay", x.count(1), 11);
        due("ROWS stay", x.row(10), 2);
        due("write(1)", x.write(1), 4);
        long[] proof = {2, 1, 4, 3};
        for (int i = 0; i < 4; i++) due("row(" + i + ")", x.row(i), proof[i]);
        due("no more", x.row(4), NO);
        due("write(2)", x.write(2), 1);
        due("row(0)", x.row(0), 4);
        due("no more", x.row(1), NO);
        x.machine(0, 3, 1);
        due("3 STATES", x.write(4), STATE);
        x.write(1);
        x.back(1, 1);
        due("of a LOOP", x.write(5), 4);
        x.drop();
        due("ROWS outlast their MACHINE", x.row(3), 3);
    }

    private static void row() {
        promise = 19;
        Bench x = written();
        due("row(0)", x.row(0), NO);
        x.write(0);
        due("row(-1)", x.row(-1), NO);
        due("row(0)", x.row(0), 1);
        due("row(10)", x.row(10), 2);
        due("row(11)", x.row(11), NO);
        due("row(FAR)", x.row(FAR), NO);
        due("row(DEEP)", x.row(DEEP), NO);
    }

    private static void forge() {
        promise = 20;
        Bench x = written();
        due("without ROWS", x.forge(0, 1), BAD);
        x.write(1);
        due("forge(0, most)", x.forge(0, 1000000000L), 1);
        due("row(0)", x.row(0), 1000000000L);
        due("forge(3, least)", x.forge(3, -1000000000L), 1);
        due("row(3)", x.row(3), -1000000000L);
        due("forge(0, beyond)", x.forge(0, 1000000001L), BAD);
        due("forge(0, beyond)", x.forge(0, -1000000001L), BAD);
        due("forge(0, beyond)", x.forge(0, Long.MIN_VALUE), BAD);
        due("forge(0, beyond)", x.forge(0, 4294967296L), BAD);
        due("forge(4, 1)", x.forge(4, 1), BAD);
        due("forge(-1, 1)", x.forge(-1, 1), BAD);
        due("row(0)", x.row(0), 1000000000L);
        due("row(1)", x.row(1), 1);
    }

    private static void check() {
        promise = 21;
        Bench x = written();
        due("without ROWS", x.check(0), 0);
        due("without ROWS, no ENERGY", x.check(3), 0);
        due("none such", x.check(4), BAD);
        due("none such", x.check(-1), BAD);
        x.write(0);
        due("check(0)", x.check(0), NONE);
        due("another's", x.check(1), 0);
        due("no ENERGY", x.check(3), 0);
        for (int i = 10; i >= 0; i--) {
            x.forge(i, PROOF[i] + 1);
            due("forged at " + i, x.check(0), i);
        }
        x.write(0);
        due("written again", x.check(0), NONE);
        x.write(1);
        x.machine(0, 0, 2);
        due("ROWS go on beyond its proof", x.check(4), 1);
        x.write(4);
        due("its proof goes on beyond ROWS", x.check(1), 1);
        due("without STATES", x.check(4), NONE);
        made(x, 0, 1, 1, 2, 0, 0, 0);
        x.write(5);
        due("P(0,0) below 0", x.check(5), STATE);
        made(x, 0, 2, 1, 0, 0, 0, 2, 0, 0, 0, 0, 0);
        x.write(6);
        due("P(0,0) above 0, the other below", x.check(6), STATE);
        made(x, 0, 2, 1, 2, 0, 0, 2, 0, 0, 0, 0, 0);
        x.write(7);
        due("P(0,0) below 0, the other above", x.check(7), STATE);
        x.forge(10, 4);
        due("forged, and below 0", x.check(7), 10);
        // -3 p + 4 q - r = 1, 2 p = 0, -p + r = 1
        made(x, 0, 2, 1, -2, 1, 1, 0, 0, 0, 0, 0, 0);
        x.write(8);
        dueTwo("P(0,0) is 0", x.row(5), x.row(6), 0, 1);
        dueTwo("P(0,1) is 1 by 2", x.row(7), x.row(8), 1, 2);
        due("P(0,0) is 0", x.check(8), STATE);
        // P 1/2 -3/4 1
        made(x, 0, 2, 1, -3, -3, -2, -3, 0, 0, 0, 0, 0);
        x.write(9);
        due("P(0,0) and P(1,1) above 0, P(0,1) too great", x.check(9), STATE);
        // P 7/6 11/6 5/3
        made(x, 1, 2, 1, -2, -3, 1, 3, 0, 0, 0, 0, 0);
        x.write(10);
        due("of a FLOW", x.check(10), STATE);
        made(x, 0, 2, 4, 0, 0, 0, 0, 0, 0, 0, 0, 0);
        x.write(11);
        due("P is 1 0 1", x.check(11), NONE);
    }

    private static Bench actors() {
        Bench x = new Bench();
        x.machine(0, 3, 2);
        x.machine(1, 2, 4);
        x.machine(0, 1, 1);
        x.side(2, 2);
        x.part(3, 1);
        return x;
    }

    private static void act() {
        promise = 22;
        Bench x = actors();
        due("STEPS goes", x.act(0, 0, 5), 13);
        due("STEPS leads", x.act(0, 1, 5), 13);
        due("STEPS shows", x.act(0, 2, 5), 13 ^ 17);
        due("STEPS 2 leads", x.act(2, 1, 5), 9);
        due("FLOW goes", x.act(1, 0, 5), 16);
        due("FLOW leads", x.act(1, 1, 5), 15);
        due("FLOW shows", x.act(1, 2, 5), 15 ^ 24);
        due("LOOP goes", x.act(3, 0, 5), 12);
        due("LOOP leads", x.act(3, 1, 5), 27);
        // of 4: leads (10 - 3) 3, goes of 5: 12
        due("LOOP shows", x.act(3, 2, 5), 21 ^ 12);
        due("PART goes", x.act(4, 0, 5), 11 ^ 4);
        due("PART goes", x.act(4, 0, 6), 9);
        due("PART leads", x.act(4, 1, 5), (15 - 4) * 3);
        // leads of 5: 33; of 4: goes 9 ^ 4 = 13, leads 27, goes of 5: 15
        due("PART shows", x.act(4, 2, 5), 33 + (27 ^ 15));
        due("wraps", x.act(0, 0, FAR), 1);
        due("wraps", x.act(3, 1, 1000000000), 1705032701);
        due("act 3", x.act(0, 3, 5), 0);
        due("act -1", x.act(0, -1, 5), 0);
        due("machine 5", x.act(5, 0, 5), 0);
        due("machine -1", x.act(-1, 0, 5), 0);
        due("machine FAR", x.act(FAR, 2, 5), 0);
    }

    private static void dueTrace(Bench x, int m, int act, int... bodies) {
        x.act(m, act, 7);
        due("count(2)", x.count(2), bodies.length);
        for (int i = 0; i < bodies.length; i++) due("trace(" + i + ") of " + m + " " + act, x.trace(i), bodies[i]);
        due("trace behind the last", x.trace(bodies.length), NONE);
    }

    private static void trace() {
        promise = 23;
        Bench x = actors();
        dueTrace(x, 4, 2, 41, 30, 11, 40, 10, 31, 12, 30, 11, 40, 10, 40, 10);
        dueTrace(x, 4, 1, 30, 11, 40, 10);
        dueTrace(x, 4, 0, 40, 10);
        dueTrace(x, 3, 2, 31, 12, 30, 11, 10, 10);
        dueTrace(x, 3, 1, 30, 11, 10);
        dueTrace(x, 3, 0, 10);
        dueTrace(x, 1, 2, 12, 11, 20, 10, 20, 10);
        dueTrace(x, 1, 1, 11, 20, 10);
        dueTrace(x, 1, 0, 20, 10);
        dueTrace(x, 0, 2, 12, 11, 10, 10);
        dueTrace(x, 0, 1, 11, 10);
        dueTrace(x, 0, 0, 10);
        due("trace(-1)", x.trace(-1), NONE);
        due("trace(FAR)", x.trace(FAR), NONE);
        x.drop();
        due("it outlasts other calls", x.trace(0), 10);
        x.act(0, 3, 0);
        due("no such act: none", x.trace(0), NONE);
        x.act(0, 0, 0);
        x.act(9, 0, 0);
        due("no such MACHINE: none", x.trace(0), NONE);
        due("no such MACHINE: none", x.count(2), 0);
    }

    private static void count() {
        promise = 24;
        Bench x = actors();
        due("count(0)", x.count(0), 5);
        due("count(1)", x.count(1), 0);
        x.write(4);
        due("count(1)", x.count(1), 4);
        x.act(4, 2, 1);
        due("count(2)", x.count(2), 13);
        due("count(0)", x.count(0), 5);
        x.drop();
        due("count(0)", x.count(0), 4);
        due("count(3)", x.count(3), BAD);
        due("count(-1)", x.count(-1), BAD);
        due("count(FAR)", x.count(FAR), BAD);
    }

    private static void sheet() {
        promise = 25;
        Bench x = new Bench();
        for (int sort = 0; sort <= 2; sort++) {
            due("40 items", x.sheet(sort, sort, 40), 1);
            due("the last", x.cell(sort, 39, 1), 1);
            due("behind it", x.cell(sort, 40, 1), OUTSIDE);
        }
        due("no items", x.sheet(3, 1, 0), 1);
        due("none", x.cell(3, 0, 1), OUTSIDE);
        due("missing", x.sheet(3, -1, 99), 1);
        due("missing", x.cell(3, 0, 1), NOTHING);
        due("missing, n below 0", x.sheet(3, -1, DEEP), 1);
        due("41 items", x.sheet(0, 0, 41), BAD);
        due("many items", x.sheet(0, 0, FAR), BAD);
        due("-1 items", x.sheet(0, 0, -1), BELOW);
        due("DEEP items", x.sheet(0, 2, DEEP), BELOW);
        due("sheet 4", x.sheet(4, 0, 1), BAD);
        due("sheet -1", x.sheet(-1, 0, 1), BAD);
        due("sheet 4, -1 items", x.sheet(4, 0, -1), BAD);
        due("sort 3", x.sheet(0, 3, 1), BAD);
        due("sort -2", x.sheet(0, -2, 1), BAD);
        due("sort 3, -1 items", x.sheet(0, 3, -1), BAD);
        due("refused, so it stays", x.cell(0, 39, 1), 1);
        x.machine(0, 1, 1);
        due("it holds 1", x.lay(0, 0, 0, 39), 1);
        due("a is 1", x.table(0, 0, 0, 0), 1);
        x.sheet(0, 0, 40);
        x.lay(0, 0, 0, 39);
        due("a new row is all 0", x.table(0, 0, 0, 0), 0);
    }

    private static void cell() {
        promise = 26;
        Bench x = new Bench();
        x.machine(0, 1, 1);
        due("sheet 4", x.cell(4, 0, 0), BAD);
        due("sheet -1", x.cell(-1, 0, 0), BAD);
        due("missing", x.cell(0, 0, 0), NOTHING);
        due("missing, outside", x.cell(0, -1, 0), NOTHING);
        for (int sort = 0; sort <= 2; sort++) {
            x.sheet(sort, sort, 2);
            due("-1", x.cell(sort, -1, 0), OUTSIDE);
            due("2", x.cell(sort, 2, 0), OUTSIDE);
            due("FAR", x.cell(sort, FAR, 0), OUTSIDE);
            due("1", x.cell(sort, 1, -3), 1);
            due("lay", x.lay(0, sort, sort, 1), 1);
            due("a", x.table(0, 0, 0, 0), -3);
            due("0", x.cell(sort, 0, 0x7fffff02), 1);
            due("lay", x.lay(0, sort, sort, 0), sort == 0 ? 1 : BAD);
            due("a", x.table(0, 0, 0, 0), sort == 0 ? 2 : -3);
        }
        x.cell(0, 0, 255);
        x.lay(0, 0, 0, 0);
        due("255 of bytes is -1", x.table(0, 0, 0, 0), -1);
        x.cell(0, 0, 128);
        due("128 of bytes is -128", x.lay(0, 0, 0, 0), BAD);
    }

    private static void lay() {
        promise = 27;
        Bench x = new Bench();
        x.machine(0, 2, 1);
        x.machine(1, 1, 1);
        x.machine(0, 0, 1);
        x.side(0, 2);
        for (int sort = 0; sort <= 2; sort++) {
            x.sheet(sort, sort, 6);
            for (int i = 0; i < 6; i++) x.cell(sort, i, i - 2);
            due("lay from 1", x.lay(0, sort, sort, 1), 1);
            dueTables(x, 0, 2, -1, 0, 1, 2, 0, 0, 0, 0, 0);
            due("lay from 2", x.lay(0, sort, sort, 2), 1);
            dueTables(x, 0, 2, 0, 1, 2, 3, 0, 0, 0, 0, 0);
            due("from 3: beyond", x.lay(0, sort, sort, 3), OUTSIDE);
            due("from -1", x.lay(0, sort, sort, -1), OUTSIDE);
            due("from FAR", x.lay(0, sort, sort, FAR), OUTSIDE);
            due("another sort", x.lay(0, sort, (sort + 1) % 3, 0), OTHER);
            due("another sort, outside", x.lay(0, sort, (sort + 1) % 3, 9), OTHER);
            x.cell(sort, 3, -4);
            due("an item beyond", x.lay(0, sort, sort, 0), BAD);
            due("outside, an item beyond", x.lay(0, sort, sort, 3), OUTSIDE);
            dueTables(x, 0, 2, 0, 1, 2, 3, 0, 0, 0, 0, 0);
            due("items before and behind do not matter", x.lay(1, sort, sort, 5), 1);
            due("a", x.table(1, 0, 0, 0), 3);
            due("without STATES, outside", x.lay(2, sort, sort, -9), 1);
            due("without STATES, another sort", x.lay(2, sort, (sort + 1) % 3, 0), OTHER);
            due("missing", x.lay(0, 3, sort, 0), NOTHING);
            due("missing, outside", x.lay(0, 3, sort, -1), NOTHING);
            due("missing, without STATES", x.lay(2, 3, sort, 0), NOTHING);
        }
        due("a LOOP", x.lay(3, 1, 1, 0), STATE);
        due("a LOOP, another sort", x.lay(3, 1, 0, 0), STATE);
        due("a LOOP, missing", x.lay(3, 3, 0, 0), STATE);
        due("a LOOP, sheet 4", x.lay(3, 4, 0, 0), BAD);
        int[][] bad = {{4, 1, 1, 0}, {-1, 1, 1, 0}, {0, 4, 1, 0}, {0, -1, 1, 0}, {0, 1, 3, 0}, {0, 1, -1, 0}, {0, 3, 3, 0},
            {2, 1, 3, 0}, {2, 4, 1, 0}};
        for (int[] b : bad) due("lay", x.lay(b[0], b[1], b[2], b[3]), BAD);
    }

    private static void dueItems(Bench x, int sheet, int... items) {
        for (int i = 0; i < items.length; i++) {
            due("lay", x.lay(0, sheet, 1, i), 1);
            due("item " + i + " of " + sheet, x.table(0, 0, 0, 0), items[i]);
        }
        due("no more items", x.lay(0, sheet, 1, items.length), OUTSIDE);
    }

    private static void copy() {
        promise = 28;
        Bench x = new Bench();
        x.machine(0, 1, 1);
        x.sheet(0, 1, 5);
        x.sheet(1, 1, 3);
        x.sheet(2, 2, 5);
        for (int i = 0; i < 5; i++) x.cell(0, i, i - 2);
        due("copy(0, 1, 1, 0, 3)", x.copy(0, 1, 1, 0, 3), 3);
        dueItems(x, 1, -1, 0, 1);
        due("copy(1, 0, 0, 4, 1)", x.copy(1, 0, 0, 4, 1), 1);
        dueItems(x, 0, -2, -1, 0, 1, -1);
        due("onto itself, behind", x.copy(0, 0, 0, 1, 4), 4);
        dueItems(x, 0, -2, -2, -1, 0, 1);
        due("onto itself, ahead", x.copy(0, 1, 0, 0, 4), 4);
        dueItems(x, 0, -2, -1, 0, 1, 1);
        due("none", x.copy(0, 0, 1, 0, 0), 0);
        due("none, at the ends", x.copy(0, 5, 1, 3, 0), 0);
        int[][] refused = {{0, 6, 1, 0, 0, OUTSIDE}, {0, 0, 1, 4, 0, OUTSIDE}, {0, 0, 1, 0, 4, OUTSIDE},
            {0, 3, 1, 0, 3, OUTSIDE}, {0, 0, 1, 1, 3, OUTSIDE}, {0, -1, 1, 0, 1, OUTSIDE}, {0, 0, 1, -1, 1, OUTSIDE},
            {0, 0, 1, 0, -1, OUTSIDE}, {0, FAR, 1, 0, FAR, OUTSIDE}, {0, 0, 1, FAR, 1, OUTSIDE}, {0, 5, 1, 3, -1, OUTSIDE},
            {0, DEEP, 1, 0, DEEP, OUTSIDE}, {0, 0, 2, 0, 1, OTHER}, {2, 0, 0, 0, 1, OTHER}, {0, -1, 2, 0, 1, OTHER},
            {0, 0, 3, 0, 1, NOTHING}, {3, 0, 0, 0, 1, NOTHING}, {3, -1, 3, 0, 1, NOTHING}, {4, 0, 0, 0, 1, BAD},
            {0, 0, 4, 0, 1, BAD}, {-1, 0, 3, 0, 1, BAD}, {3, 0, -1, 0, -1, BAD}};
        for (int[] r : refused)
            due("copy " + java.util.Arrays.toString(r), x.copy(r[0], r[1], r[2], r[3], r[4]), r[5]);
        dueItems(x, 0, -2, -1, 0, 1, 1);
        dueItems(x, 1, -1, 0, 1);
    }

    private static void taken() {
        promise = 29;
        Bench x = actors();
        int[][] due = {{3, OTHER, OTHER, OTHER}, {2, 2, OTHER, OTHER}, {1, OTHER, OTHER, OTHER}, {2, OTHER, 2, OTHER},
            {1, OTHER, 1, 1}};
        for (int m = 0; m < 5; m++)
            for (int k = 0; k < 4; k++) due("taken(" + m + ", " + k + ")", x.taken(m, k), due[m][k]);
        due("k 4", x.taken(0, 4), BAD);
        due("k -1", x.taken(0, -1), BAD);
        due("k 4, no such MACHINE", x.taken(9, 4), BAD);
        due("no such MACHINE", x.taken(5, 0), NOTHING);
        due("no such MACHINE", x.taken(-1, 3), NOTHING);
        due("no such MACHINE", x.taken(DEEP, 1), NOTHING);
    }
}
