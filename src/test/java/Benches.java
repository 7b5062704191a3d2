/** Benches that many tests begin with. */
final class Benches {
    /** Numbers of the MACHINES of rich(). */
    static final int STEPS_2 = 0, FLOW_1 = 1, WIRE = 2, LOOP_2 = 3, PART_1 = 4, OTHER_UNIT = 5, STEPS_3 = 6, FLOW_0 = 7,
        NO_ENERGY = 8, RICH_COUNT = 9;

    private Benches() {
    }

    /** Something of everything: MACHINES of all KINDS, ROWS, a TRACE, SHEETS of all sorts and a missing one. */
    static Bench rich() {
        Bench x = new Bench();
        x.made(0, 2, 2, 1, 1, -1, 0, 0, 1, 1, 0, 0);
        x.made(1, 1, 2, -1, 1, 2, 0);
        x.made(0, 0, 2, 2);
        x.series(STEPS_2, WIRE);
        x.part(STEPS_2, 1);
        x.made(0, 1, 4, 3, 1, 1, 0);
        x.made(0, 3, 2, 1, 0, 2, 0, -1, 0, 3, 0, 1, 1, 0, 0, 0, 0, 1, 1);
        x.made(1, 0, 2, 1);
        x.made(0, 1, 2, 2, 1, 1, 0);
        x.write(STEPS_2);
        x.act(PART_1, 2, 5);
        x.sheet(0, 0, 4);
        for (int i = 0; i < 4; i++) x.cell(0, i, i - 1);
        x.sheet(1, 1, 9);
        for (int i = 0; i < 9; i++) x.cell(1, i, i % 7 - 3);
        x.sheet(2, 2, 5);
        for (int i = 0; i < 5; i++) x.cell(2, i, 3 - i);
        return x;
    }

    /** The same with 12 MACHINES. */
    static Bench richAndFull() {
        Bench x = rich();
        for (int m = RICH_COUNT; m < 12; m++) x.machine(0, 0, 2);
        return x;
    }

    /** The same without MACHINES. */
    static Bench richWithoutMachines() {
        Bench x = rich();
        for (int m = 0; m < RICH_COUNT; m++) x.drop();
        return x;
    }

    /** A MACHINE without STATES whose d is v, as a sum where v is too great to be set. */
    static int wire(Bench x, int unit, int v) {
        int d = Math.max(-3, Math.min(3, v));
        int m = x.made(0, 0, unit, d);
        return v == d ? m : x.side(m, wire(x, unit, v - d));
    }
}
