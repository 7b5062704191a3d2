/**
 * All that a bench can be seen to hold, as one text. It uses the bench up: items of a SHEET are seen by lay()
 * alone, which alters a MACHINE. So a bench that is the same again is made for what comes next.
 */
final class Snapshot {
    private final Bench x;
    private final StringBuilder text = new StringBuilder();
    private int probe = -1;

    private Snapshot(Bench x) {
        this.x = x;
    }

    static String of(Bench x) {
        Snapshot s = new Snapshot(x);
        s.machines();
        s.rows();
        s.trace();
        s.sheets();
        return s.text.toString();
    }

    private void machines() {
        int count = x.count(0);
        text.append("machines ").append(count).append('\n');
        for (int m = 0; m < count; m++) {
            int kind = x.machineTold(m, 0);
            int n = x.machineTold(m, 1);
            text.append("machine ").append(m).append(": ").append(kind).append(' ').append(n).append(' ').append(x.machineTold(m, 2));
            for (int i = 0; i < n; i++) for (int k = 0; k < n; k++) text.append(' ').append(x.table(m, 0, i, k));
            for (int i = 0; i < n; i++) text.append(' ').append(x.table(m, 1, i, 0));
            for (int i = 0; i < n; i++) text.append(' ').append(x.table(m, 2, i, 0));
            text.append(' ').append(x.table(m, 3, 0, 0)).append('\n');
            if (kind <= 1 && n == 1) probe = m;
        }
        if (probe < 0 && count < 12) probe = x.machine(0, 1, 1);
    }

    private void rows() {
        int count = x.count(1);
        text.append("rows");
        for (int i = 0; i < count; i++) text.append(' ').append(x.row(i));
        text.append('\n');
    }

    private void trace() {
        int count = x.count(2);
        text.append("trace");
        for (int i = 0; i < count; i++) text.append(' ').append(x.trace(i));
        text.append('\n');
    }

    private void sheets() {
        for (int s = 0; s < 4; s++) {
            text.append("sheet ").append(s);
            if (x.copy(s, 0, s, 0, 0) == -11) text.append(" missing");
            else items(s, sortOf(s), lengthOf(s));
            text.append('\n');
        }
    }

    /** A copy of a SHEET onto the same places changes nothing. */
    private int lengthOf(int s) {
        int n = 0;
        while (n < 40 && x.copy(s, 0, s, 0, n + 1) == n + 1) n++;
        return n;
    }

    private int sortOf(int s) {
        for (int sort = 0; sort <= 2 && probe >= 0; sort++) if (x.lay(probe, s, sort, -1) == -12) return sort;
        return -1;
    }

    private void items(int s, int sort, int n) {
        text.append(" of sort ").append(sort).append(", ").append(n).append(':');
        for (int i = 0; i < n && probe >= 0; i++) {
            boolean isSmall = x.lay(probe, s, sort, i) == 1;
            text.append(' ').append(isSmall ? String.valueOf(x.table(probe, 0, 0, 0)) : "beyond");
        }
    }
}
