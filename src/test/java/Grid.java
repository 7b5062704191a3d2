/** Tables of fractions by elimination, for the tests. */
final class Grid {
    private Grid() {
    }

    static Ratio[][] zero(int rows, int columns) {
        Ratio[][] g = new Ratio[rows][columns];
        for (Ratio[] row : g) java.util.Arrays.fill(row, Ratio.ZERO);
        return g;
    }

    static Ratio[][] times(Ratio[][] x, Ratio[][] y) {
        int columns = y.length == 0 ? 0 : y[0].length;
        Ratio[][] g = zero(x.length, columns);
        for (int i = 0; i < x.length; i++)
            for (int k = 0; k < columns; k++)
                for (int j = 0; j < y.length; j++) g[i][k] = g[i][k].plus(x[i][j].times(y[j][k]));
        return g;
    }

    static Ratio[][] copy(Ratio[][] x) {
        Ratio[][] g = new Ratio[x.length][];
        for (int i = 0; i < x.length; i++) g[i] = x[i].clone();
        return g;
    }

    /** Brings a table to steps; answers its rank. */
    static int eliminate(Ratio[][] g, int columns) {
        int rank = 0;
        for (int column = 0; column < columns && rank < g.length; column++) {
            int pivot = rank;
            while (pivot < g.length && g[pivot][column].sign() == 0) pivot++;
            if (pivot == g.length) continue;
            Ratio[] row = g[pivot];
            g[pivot] = g[rank];
            g[rank] = row;
            Ratio lead = row[column];
            for (int k = 0; k < row.length; k++) row[k] = row[k].by(lead);
            for (int i = 0; i < g.length; i++) {
                if (i == rank) continue;
                Ratio factor = g[i][column];
                for (int k = 0; k < row.length; k++) g[i][k] = g[i][k].minus(factor.times(row[k]));
            }
            rank++;
        }
        return rank;
    }

    static int rank(Ratio[][] x) {
        return x.length == 0 ? 0 : eliminate(copy(x), x[0].length);
    }

    /** The one solution of x times unknowns = right, or null if there is none or more than one. */
    static Ratio[] solve(Ratio[][] x, Ratio[] right, int unknowns) {
        Ratio[][] g = zero(x.length, unknowns + 1);
        for (int i = 0; i < x.length; i++) {
            System.arraycopy(x[i], 0, g[i], 0, unknowns);
            g[i][unknowns] = right[i];
        }
        int rank = eliminate(g, unknowns);
        if (rank < unknowns) return null;
        for (int i = rank; i < g.length; i++) if (g[i][unknowns].sign() != 0) return null;
        Ratio[] answer = new Ratio[unknowns];
        for (int i = 0; i < unknowns; i++) answer[i] = g[i][unknowns];
        return answer;
    }

    /** By expansion along the first row. */
    static Ratio determinant(Ratio[][] x) {
        if (x.length == 0) return Ratio.ONE;
        Ratio sum = Ratio.ZERO;
        for (int k = 0; k < x.length; k++) {
            Ratio[][] minor = zero(x.length - 1, x.length - 1);
            for (int i = 1; i < x.length; i++)
                for (int j = 0, to = 0; j < x.length; j++) if (j != k) minor[i - 1][to++] = x[i][j];
            Ratio term = x[0][k].times(determinant(minor));
            sum = k % 2 == 0 ? sum.plus(term) : sum.minus(term);
        }
        return sum;
    }

    /** The polynomial of values.length numbers with these values at these places. */
    static Ratio[] interpolate(Ratio[] places, Ratio[] values) {
        Ratio[][] g = zero(places.length, places.length);
        for (int i = 0; i < places.length; i++) {
            Ratio power = Ratio.ONE;
            for (int k = 0; k < places.length; k++) {
                g[i][k] = power;
                power = power.times(places[i]);
            }
        }
        return solve(g, values, places.length);
    }
}
