/** Promises 25 to 29: SHEETS, what is laid and copied of them, MACHINES taken for one of a KIND. */
final class SheetSentences {
    private static final int BAD = Sentences.BAD, STATE = Sentences.STATE;
    private static final int NOTHING = Sentences.NOTHING, OUTSIDE = Sentences.OUTSIDE, OTHER = Sentences.OTHER, BELOW = Sentences.BELOW;
    private static final int FAR = Sentences.FAR, DEEP = Sentences.DEEP;
    private static final String FIRST_NAMED = "Refusals, the first that the call's words name; they change nothing:";

    private SheetSentences() {
    }

    static void all() {
        sheet();
        sheetRefused();
        cell();
        cellRefused();
        lay();
        layRefused();
        layItems();
        layWithoutStates();
        copy();
        copyRefused();
        taken();
    }

    private static void due(long got, long want) {
        Sentences.due(got, want);
    }

    private static void says(int promise, String sentence) {
        Sentences.says(promise, sentence);
    }

    /** Item i as a MACHINE of one STATE gets it; expects that number 0 is one. */
    private static void dueItem(Bench x, int sheet, int sort, int i, int want) {
        due(x.lay(0, sheet, sort, i), 1);
        due(x.table(0, 0, 0, 0), want);
    }

    private static Bench withOneState() {
        Bench x = new Bench();
        x.machine(0, 1, 1);
        return x;
    }

    // ---- promise 25

    private static void sheet() {
        says(25, "A SHEET becomes a row of n of a sort, all 0, or missing (sort -1: n does not matter): 1.");
        for (int sort = 0; sort <= 2; sort++) {
            for (int n : new int[] {0, 1, 2, 39, 40}) {
                Bench x = withOneState();
                due(x.sheet(sort, sort, n), 1);
                for (int i = 0; i < n; i++) dueItem(x, sort, sort, i, 0);
                due(x.lay(0, sort, sort, n), OUTSIDE);
                due(x.cell(sort, n, 1), OUTSIDE);
                if (n > 0) due(x.cell(sort, n - 1, 3), 1);
                if (n > 0) dueItem(x, sort, sort, n - 1, 3);
                for (int other = 0; other <= 3; other++) if (other != sort) due(x.cell(other, 0, 0), NOTHING);
            }
        }
        for (int n : new int[] {0, 5, 40, 41, -1, FAR, DEEP}) {
            Bench x = withOneState();
            due(x.sheet(3, 1, 5), 1);
            due(x.cell(3, 4, 1), 1);
            due(x.sheet(3, -1, n), 1);
            due(x.cell(3, 4, 1), NOTHING);
            due(x.sheet(3, -1, n), 1);
            due(x.sheet(3, 1, 5), 1);
            dueItem(x, 3, 1, 4, 0);
        }
        // one that was there becomes all 0, of another length, of another sort
        Bench y = withOneState();
        y.sheet(0, 1, 3);
        y.cell(0, 2, 3);
        due(y.sheet(0, 1, 3), 1);
        dueItem(y, 0, 1, 2, 0);
        due(y.sheet(0, 2, 2), 1);
        due(y.lay(0, 0, 1, 0), OTHER);
        due(y.lay(0, 0, 2, 2), OUTSIDE);
        dueItem(y, 0, 2, 1, 0);
    }

    private static void sheetRefused() {
        says(25, "BAD: no such SHEET, sort; n above 40; -14.");
        for (int s = -2; s <= 5; s++) due(new Bench().sheet(s, 0, 1), s >= 0 && s <= 3 ? 1 : BAD);
        for (int sort = -3; sort <= 4; sort++) due(new Bench().sheet(0, sort, 1), sort >= -1 && sort <= 2 ? 1 : BAD);
        for (int sort = 0; sort <= 2; sort++) {
            int[][] sizes = {{DEEP, BELOW}, {-41, BELOW}, {-1, BELOW}, {0, 1}, {1, 1}, {39, 1}, {40, 1}, {41, BAD}, {FAR, BAD}};
            for (int[] s : sizes) due(new Bench().sheet(2, sort, s[0]), s[1]);
        }
        for (int s = 0; s <= 3; s++) {
            int sheet = s;
            Sentences.refused(Benches::rich, BAD, b -> b.sheet(sheet, 3, 1), b -> b.sheet(sheet, -2, 1), b -> b.sheet(sheet, FAR, 1),
                b -> b.sheet(sheet, DEEP, 1), b -> b.sheet(sheet, 0, 41), b -> b.sheet(sheet, 1, 41), b -> b.sheet(sheet, 2, FAR));
            Sentences.refused(Benches::rich, BELOW, b -> b.sheet(sheet, 0, -1), b -> b.sheet(sheet, 1, -1), b -> b.sheet(sheet, 2, DEEP));
        }
        Sentences.refused(Benches::rich, BAD, b -> b.sheet(-1, 0, 1), b -> b.sheet(4, 0, 1), b -> b.sheet(FAR, -1, 1), b -> b.sheet(DEEP, -1, 1));
        says(25, FIRST_NAMED);
        Sentences.refused(Benches::rich, BAD, b -> b.sheet(4, 0, -1), b -> b.sheet(-1, 0, -1), b -> b.sheet(0, 3, -1), b -> b.sheet(0, -2, -1));
    }

    // ---- promise 26

    private static void cell() {
        says(26, "Item i of a SHEET becomes v (of bytes its lowest 8 bits): 1.");
        // v, and what lay() makes of it where it is of bytes, and of ints and longs: 9 is one that is not -3 .. 3
        int[][] values = {{3, 3, 3}, {-3, -3, -3}, {4, 9, 9}, {-4, 9, 9}, {127, 9, 9}, {128, 9, 9}, {252, 9, 9}, {253, -3, 9}, {255, -1, 9},
            {256, 0, 9}, {257, 1, 9}, {259, 3, 9}, {260, 9, 9}, {-253, 3, 9}, {-256, 0, 9}, {-257, -1, 9}, {-259, -3, 9}, {-260, 9, 9},
            {0x7fffff02, 2, 9}, {FAR, -1, 9}, {DEEP, 0, 9}, {0x100, 0, 9}, {0x10000, 0, 9}, {-1, -1, -1}};
        for (int sort = 0; sort <= 2; sort++) {
            Bench x = withOneState();
            x.sheet(sort, sort, 2);
            for (int[] v : values) {
                int want = v[sort == 0 ? 1 : 2];
                due(x.cell(sort, 1, v[0]), 1);
                if (want == 9) due(x.lay(0, sort, sort, 1), BAD);
                else dueItem(x, sort, sort, 1, want);
            }
            dueItem(x, sort, sort, 0, 0);
        }
        for (int sort = 0; sort <= 2; sort++) {
            Bench y = withOneState();
            y.sheet(3, sort, 40);
            for (int i = -2; i <= 42; i++) due(y.cell(3, i, i % 4), i >= 0 && i < 40 ? 1 : OUTSIDE);
            for (int i = 0; i < 40; i++) dueItem(y, 3, sort, i, i % 4);
        }
    }

    private static void cellRefused() {
        says(26, "BAD: no such SHEET; -11; -12.");
        for (int s = -2; s <= 5; s++) due(new Bench().cell(s, 0, 0), s >= 0 && s <= 3 ? NOTHING : BAD);
        Bench x = new Bench();
        x.sheet(0, 0, 0);
        due(x.cell(0, 0, 1), OUTSIDE);
        due(x.cell(0, -1, 1), OUTSIDE);
        x.sheet(0, 0, 1);
        due(x.cell(0, 0, 1), 1);
        due(x.cell(0, 1, 1), OUTSIDE);
        Sentences.refused(Benches::rich, BAD, b -> b.cell(-1, 0, 1), b -> b.cell(4, 0, 1), b -> b.cell(FAR, 0, 1), b -> b.cell(DEEP, 0, 1));
        Sentences.refused(Benches::rich, NOTHING, b -> b.cell(3, 0, 1));
        Sentences.refused(Benches::rich, OUTSIDE, b -> b.cell(0, 4, 1), b -> b.cell(1, 9, 1), b -> b.cell(2, 5, 1), b -> b.cell(0, -1, 1),
            b -> b.cell(1, FAR, 1), b -> b.cell(2, DEEP, 1));
        says(26, FIRST_NAMED);
        Sentences.refused(Benches::rich, BAD, b -> b.cell(4, -1, 1));
        Sentences.refused(Benches::rich, NOTHING, b -> b.cell(3, -1, 1), b -> b.cell(3, FAR, 1));
    }

    // ---- promise 27

    private static void lay() {
        says(27, "The TABLE a of a MACHINE of KIND 0, 1 by n times n items of a SHEET that is taken for one of a sort, from item i on, row by row: 1.");
        for (int kind = 0; kind <= 1; kind++) {
            for (int sort = 0; sort <= 2; sort++) {
                Bench x = new Bench();
                for (int n = 1; n <= 3; n++) x.machine(kind, n, 1);
                x.sheet(2, sort, 11);
                for (int i = 0; i < 11; i++) x.cell(2, i, i % 7 - 3);
                for (int n = 1; n <= 3; n++) {
                    for (int i = -1; i <= 12; i++) {
                        boolean isInside = i >= 0 && i + n * n <= 11;
                        due(x.lay(n - 1, 2, sort, i), isInside ? 1 : OUTSIDE);
                        if (isInside) due(x.table(n - 1, 0, n - 1, n - 1), (i + n * n - 1) % 7 - 3);
                    }
                }
                due(x.lay(2, 2, sort, 1), 1);
                Sentences.dueTables(x, 2, 3, -2, -1, 0, 1, 2, 3, -3, -2, -1, 0, 0, 0, 0, 0, 0, 0);
                due(x.lay(1, 2, sort, 2), 1);
                Sentences.dueTables(x, 1, 2, -1, 0, 1, 2, 0, 0, 0, 0, 0);
            }
        }
        // the other TABLES stay, and what was laid is not altered by what comes to the SHEET later
        Bench y = new Bench();
        y.made(0, 1, 2, 1, 2, 3, -1);
        y.sheet(0, 1, 1);
        y.cell(0, 0, -2);
        due(y.lay(0, 0, 1, 0), 1);
        y.cell(0, 0, 3);
        y.sheet(0, -1, 0);
        Sentences.dueTables(y, 0, 1, -2, 2, 3, -1);
        // it is STEADY by what has been laid
        y.made(0, 2, 1, 1, 0, 0, 1, 0, 0, 0, 0, 0);
        due(y.machineTold(1, 3), 0);
        y.sheet(1, 0, 4);
        due(y.lay(1, 1, 0, 0), 1);
        due(y.machineTold(1, 3), 1);
    }

    private static void layRefused() {
        says(27, "BAD: no such MACHINE, SHEET, sort; STATE: another KIND; -13; -11; -12; BAD: an item is not -3 .. 3.");
        Sentences.refused(Benches::rich, BAD, b -> b.lay(-1, 1, 1, 0), b -> b.lay(Benches.RICH_COUNT, 1, 1, 0), b -> b.lay(FAR, 1, 1, 0),
            b -> b.lay(DEEP, 1, 1, 0), b -> b.lay(0, -1, 1, 0), b -> b.lay(0, 4, 1, 0), b -> b.lay(0, FAR, 1, 0), b -> b.lay(0, DEEP, 1, 0),
            b -> b.lay(0, 1, -1, 0), b -> b.lay(0, 1, 3, 0), b -> b.lay(0, 1, FAR, 0), b -> b.lay(0, 1, DEEP, 0), b -> b.lay(0, 3, -1, 0));
        Sentences.refused(Benches::rich, STATE, b -> b.lay(Benches.LOOP_2, 1, 1, 0), b -> b.lay(Benches.PART_1, 1, 1, 0));
        Sentences.refused(Benches::rich, OTHER, b -> b.lay(0, 0, 1, 0), b -> b.lay(0, 0, 2, 0), b -> b.lay(0, 1, 0, 0), b -> b.lay(0, 1, 2, 0),
            b -> b.lay(0, 2, 0, 0), b -> b.lay(0, 2, 1, 0));
        Sentences.refused(Benches::rich, NOTHING, b -> b.lay(0, 3, 0, 0), b -> b.lay(0, 3, 1, 0), b -> b.lay(0, 3, 2, 0));
        Sentences.refused(Benches::rich, OUTSIDE, b -> b.lay(0, 1, 1, 6), b -> b.lay(0, 1, 1, -1), b -> b.lay(0, 1, 1, FAR), b -> b.lay(0, 1, 1, FAR - 3),
            b -> b.lay(0, 1, 1, DEEP), b -> b.lay(0, 0, 0, 1), b -> b.lay(0, 2, 2, 2), b -> b.lay(Benches.STEPS_3, 1, 1, 1),
            b -> b.lay(Benches.STEPS_3, 0, 0, 0), b -> b.lay(Benches.FLOW_1, 0, 0, 4));
        for (int sort = 0; sort <= 2; sort++) due(Benches.rich().lay(0, sort, sort, 0), 1);
        says(27, FIRST_NAMED);
        Sentences.refused(Benches::rich, BAD, b -> b.lay(Benches.LOOP_2, 4, 1, 0), b -> b.lay(Benches.LOOP_2, 1, 3, 0), b -> b.lay(Benches.PART_1, 3, -1, 0),
            b -> b.lay(0, 4, 1, -1), b -> b.lay(Benches.RICH_COUNT, 3, 1, -1), b -> b.lay(0, 3, 3, -1));
        Sentences.refused(Benches::rich, STATE, b -> b.lay(Benches.LOOP_2, 1, 0, 0), b -> b.lay(Benches.LOOP_2, 3, 1, 0), b -> b.lay(Benches.LOOP_2, 1, 1, -1),
            b -> b.lay(Benches.PART_1, 3, 0, FAR));
        Sentences.refused(Benches::rich, OTHER, b -> b.lay(0, 1, 0, -1), b -> b.lay(0, 1, 2, FAR));
        Sentences.refused(Benches::rich, NOTHING, b -> b.lay(0, 3, 1, -1), b -> b.lay(0, 3, 0, FAR));
        Sentences.refused(() -> greatItem(0, 4), OTHER, b -> b.lay(0, 0, 1, 0));
        Sentences.refused(() -> greatItem(0, 4), OUTSIDE, b -> b.lay(0, 0, 0, 1));
        Sentences.refused(() -> greatItem(3, -4), OUTSIDE, b -> b.lay(0, 0, 0, 1), b -> b.lay(0, 0, 0, -1));
    }

    /** Two STATES with numbers in a, and four bytes of which one is v. */
    private static Bench greatItem(int at, int v) {
        Bench x = new Bench();
        x.made(0, 2, 1, 1, 2, 3, -1, 0, 0, 0, 0, 0);
        x.sheet(0, 0, 4);
        x.cell(0, at, v);
        return x;
    }

    private static void layItems() {
        says(27, "BAD: an item is not -3 .. 3.");
        for (int sort = 0; sort <= 2; sort++) {
            for (int at = 0; at < 6; at++) {
                for (int v = -5; v <= 5; v++) {
                    Bench x = new Bench();
                    x.made(0, 2, 1, 3, 3, 3, 3, 0, 0, 0, 0, 0);
                    x.sheet(0, sort, 6);
                    x.cell(0, at, v);
                    // items 1 .. 4 are laid: those ahead and behind do not matter
                    boolean fits = at == 0 || at == 5 || v >= -3 && v <= 3;
                    due(x.lay(0, 0, sort, 1), fits ? 1 : BAD);
                    for (int k = 0; k < 4; k++) due(x.table(0, 0, k / 2, k % 2), !fits ? 3 : k == at - 1 ? v : 0);
                }
            }
        }
        for (int at = 0; at < 4; at++) {
            int place = at;
            Sentences.refused(() -> greatItem(place, 4), BAD, b -> b.lay(0, 0, 0, 0));
            Sentences.refused(() -> greatItem(place, -4), BAD, b -> b.lay(0, 0, 0, 0));
        }
    }

    private static void layWithoutStates() {
        says(27, "(Without STATES: -13, -11 alone.)");
        for (int i : new int[] {DEEP, -1, 0, 3, 4, 5, FAR}) {
            Sentences.refused(Benches::rich, OTHER, b -> b.lay(Benches.WIRE, 0, 1, i), b -> b.lay(Benches.WIRE, 2, 0, i), b -> b.lay(Benches.FLOW_0, 1, 2, i));
            Sentences.refused(Benches::rich, NOTHING, b -> b.lay(Benches.WIRE, 3, 0, i), b -> b.lay(Benches.FLOW_0, 3, 2, i));
            // no place is outside, and there is nothing to be laid
            Sentences.refused(Benches::rich, 1, b -> b.lay(Benches.WIRE, 0, 0, i), b -> b.lay(Benches.WIRE, 1, 1, i), b -> b.lay(Benches.FLOW_0, 2, 2, i));
        }
        Bench x = new Bench();
        x.machine(0, 0, 1);
        x.machine(0, 1, 1);
        x.sheet(0, 1, 0);
        due(x.lay(0, 0, 1, 0), 1);
        due(x.lay(1, 0, 1, 0), OUTSIDE);
        x.sheet(0, 1, 1);
        x.cell(0, 0, 4);
        due(x.lay(0, 0, 1, 0), 1);
        due(x.lay(1, 0, 1, 0), BAD);
        // what there is not at all is BAD as ever
        Sentences.refused(Benches::rich, BAD, b -> b.lay(Benches.WIRE, 4, 0, 0), b -> b.lay(Benches.WIRE, 0, 3, 0), b -> b.lay(Benches.WIRE, 3, -1, 0));
    }

    // ---- promise 28

    private static void dueItems(Bench x, int sheet, int sort, int... items) {
        for (int i = 0; i < items.length; i++) dueItem(x, sheet, sort, i, items[i]);
        due(x.lay(0, sheet, sort, items.length), OUTSIDE);
    }

    /** SHEET 0 with -2 -1 0 1 2, SHEET 1 with 3 3 3, SHEET 2 of another sort, 3 missing. */
    private static Bench copyable(int sort) {
        Bench x = withOneState();
        x.sheet(0, sort, 5);
        for (int i = 0; i < 5; i++) x.cell(0, i, i - 2);
        x.sheet(1, sort, 3);
        for (int i = 0; i < 3; i++) x.cell(1, i, 3);
        x.sheet(2, (sort + 1) % 3, 5);
        return x;
    }

    private static void copy() {
        says(28, "n items of a SHEET from i on come to another SHEET (or the same) from j on, as they all were before: n.");
        for (int sort = 0; sort <= 2; sort++) {
            Bench x = copyable(sort);
            due(x.copy(0, 1, 1, 0, 3), 3);
            dueItems(x, 1, sort, -1, 0, 1);
            dueItems(x, 0, sort, -2, -1, 0, 1, 2);
            due(x.copy(0, 4, 1, 1, 1), 1);
            dueItems(x, 1, sort, -1, 2, 1);
            due(x.copy(1, 0, 0, 2, 3), 3);
            dueItems(x, 0, sort, -2, -1, -1, 2, 1);
            // a copy is a copy: later items of the one are not the other's
            due(x.cell(1, 0, 3), 1);
            dueItems(x, 0, sort, -2, -1, -1, 2, 1);
            for (int by = 1; by <= 4; by++) {
                Bench behind = copyable(sort), ahead = copyable(sort);
                int[] one = {-2, -1, 0, 1, 2}, two = {-2, -1, 0, 1, 2};
                for (int i = 0; i < 5 - by; i++) {
                    one[i + by] = i - 2;
                    two[i] = i + by - 2;
                }
                due(behind.copy(0, 0, 0, by, 5 - by), 5 - by);
                dueItems(behind, 0, sort, one);
                due(ahead.copy(0, by, 0, 0, 5 - by), 5 - by);
                dueItems(ahead, 0, sort, two);
            }
            Bench same = copyable(sort);
            due(same.copy(0, 0, 0, 0, 5), 5);
            dueItems(same, 0, sort, -2, -1, 0, 1, 2);
        }
        // whole items are copied, also those that lay() does not take: 128 more of each, so that a byte would be cut
        Bench y = withOneState();
        y.sheet(0, 1, 2);
        y.sheet(1, 1, 2);
        y.cell(0, 0, 257);
        due(y.copy(0, 0, 1, 1, 1), 1);
        due(y.lay(0, 1, 1, 1), BAD);
        due(y.lay(0, 1, 1, 0), 1);
    }

    private static void copyRefused() {
        says(28, "BAD: no such SHEETS; -11; -13: they are not of one sort; -12: n, i or j is below 0, or beyond either's end.");
        for (int s = -1; s <= 4; s++)
            for (int o = -1; o <= 4; o++) {
                boolean isSheet = s >= 0 && s <= 3 && o >= 0 && o <= 3;
                boolean isMissing = s == 3 || o == 3;
                boolean isOther = (s == 2) != (o == 2);
                due(copyable(1).copy(s, 0, o, 0, 2), !isSheet ? BAD : isMissing ? NOTHING : isOther ? OTHER : 2);
            }
        for (int i = -1; i <= 6; i++)
            for (int j = -1; j <= 4; j++)
                for (int n = -1; n <= 6; n++) {
                    boolean fits = n >= 0 && i >= 0 && j >= 0 && i + n <= 5 && j + n <= 3;
                    due(copyable(0).copy(0, i, 1, j, n), fits ? n : OUTSIDE);
                    due(copyable(0).copy(1, j, 0, i, n), fits ? n : OUTSIDE);
                }
        Sentences.refused(Benches::rich, BAD, b -> b.copy(-1, 0, 0, 0, 1), b -> b.copy(4, 0, 0, 0, 1), b -> b.copy(0, 0, -1, 0, 1), b -> b.copy(0, 0, 4, 0, 1),
            b -> b.copy(FAR, 0, 0, 0, 0), b -> b.copy(0, 0, DEEP, 0, 0));
        Sentences.refused(Benches::rich, NOTHING, b -> b.copy(3, 0, 0, 0, 1), b -> b.copy(0, 0, 3, 0, 1), b -> b.copy(3, 0, 3, 0, 0));
        Sentences.refused(Benches::rich, OTHER, b -> b.copy(0, 0, 1, 0, 1), b -> b.copy(1, 0, 0, 0, 1), b -> b.copy(1, 0, 2, 0, 1), b -> b.copy(2, 0, 0, 0, 0));
        Sentences.refused(() -> copyable(2), OUTSIDE, b -> b.copy(0, -1, 1, 0, 1), b -> b.copy(0, 0, 1, -1, 1), b -> b.copy(0, 0, 1, 0, -1),
            b -> b.copy(0, 3, 1, 0, 3), b -> b.copy(0, 0, 1, 1, 3), b -> b.copy(0, 0, 1, 0, 4), b -> b.copy(0, 6, 1, 0, 0), b -> b.copy(0, 0, 1, 4, 0),
            b -> b.copy(0, FAR, 1, 0, 1), b -> b.copy(0, 0, 1, FAR, 1), b -> b.copy(0, 0, 1, 0, FAR), b -> b.copy(0, FAR, 1, FAR, FAR),
            b -> b.copy(0, 1, 1, 1, FAR), b -> b.copy(0, 1, 0, 0, FAR), b -> b.copy(0, DEEP, 1, 0, 1), b -> b.copy(0, 0, 1, DEEP, 1),
            b -> b.copy(0, 0, 1, 0, DEEP), b -> b.copy(0, DEEP, 1, DEEP, DEEP), b -> b.copy(0, FAR, 1, FAR, DEEP), b -> b.copy(0, 2, 0, 1, 4));
        says(28, FIRST_NAMED);
        Sentences.refused(Benches::rich, BAD, b -> b.copy(4, 0, 3, 0, 1), b -> b.copy(3, 0, 4, 0, -1), b -> b.copy(-1, -1, 1, 0, 1));
        Sentences.refused(Benches::rich, NOTHING, b -> b.copy(3, -1, 0, 0, 1), b -> b.copy(0, 0, 3, 0, -1), b -> b.copy(3, 0, 3, FAR, 1));
        Sentences.refused(Benches::rich, OTHER, b -> b.copy(0, -1, 1, 0, 1), b -> b.copy(0, 0, 1, FAR, 1), b -> b.copy(2, 0, 1, 0, -1));
    }

    // ---- promise 29

    private static void taken() {
        says(29, "A MACHINE taken for one of KIND k (0 .. 3), or one under that one (also by others between): its STATES.");
        Bench x = new Bench();
        for (int n = 0; n <= 3; n++) x.machine(0, n, 1);
        for (int n = 0; n <= 3; n++) x.machine(1, n, 1);
        for (int n = 0; n <= 3; n++) due(x.taken(n, 0), n);
        for (int n = 0; n <= 3; n++) for (int k = 0; k <= 1; k++) due(x.taken(4 + n, k), n);
        x.series(1, 2);
        x.back(1, 1);
        x.part(8, 7);
        x.part(8, 2);
        int[][] states = {{8, 3}, {9, 1}, {10, 3}, {11, 1}};
        for (int[] s : states) {
            due(x.taken(s[0], 0), s[1]);
            due(x.taken(s[0], 1), OTHER);
            due(x.taken(s[0], 2), s[1]);
            due(x.taken(s[0], 3), s[0] >= 10 ? s[1] : OTHER);
        }
        says(29, "BAD: k; -11: no such MACHINE; -13.");
        for (int k = -2; k <= 5; k++) due(x.taken(11, k), k == 1 ? OTHER : k >= 0 && k <= 3 ? 1 : BAD);
        for (int m = -2; m <= 14; m++) due(x.taken(m, 0) == NOTHING ? 1 : 0, m < 0 || m > 11 ? 1 : 0);
        for (int m = 0; m < 4; m++) for (int k = 1; k <= 3; k++) due(x.taken(m, k), OTHER);
        for (int m = 4; m < 8; m++) for (int k = 2; k <= 3; k++) due(x.taken(m, k), OTHER);
        Sentences.refused(Benches::rich, BAD, b -> b.taken(0, -1), b -> b.taken(0, 4), b -> b.taken(0, FAR), b -> b.taken(0, DEEP));
        Sentences.refused(Benches::rich, NOTHING, b -> b.taken(-1, 0), b -> b.taken(Benches.RICH_COUNT, 0), b -> b.taken(FAR, 3), b -> b.taken(DEEP, 1));
        Sentences.refused(Benches::rich, OTHER, b -> b.taken(0, 1), b -> b.taken(0, 2), b -> b.taken(Benches.FLOW_1, 2), b -> b.taken(Benches.LOOP_2, 1),
            b -> b.taken(Benches.LOOP_2, 3), b -> b.taken(Benches.PART_1, 1));
        says(29, FIRST_NAMED);
        Sentences.refused(Benches::rich, BAD, b -> b.taken(Benches.RICH_COUNT, 4), b -> b.taken(-1, -1));
        Sentences.refused(Bench::new, BAD, b -> b.taken(0, 4));
        Sentences.refused(Bench::new, NOTHING, b -> b.taken(0, 0), b -> b.taken(0, 3));
    }
}
