/** What ways and states are worth as the terms say it: by the equations of each way, and by all ways. */
final class Ways {
    private Ways() {
    }

    /** The mean of pays by that of steps, each the solution of its own equations. */
    static Part value(int[] pays, int[][] weights, int start, int set, Part share) {
        int n = pays.length;
        Part[] gains = new Part[n];
        Part[] steps = new Part[n];
        for (int s = 0; s < n; s++) {
            gains[s] = Part.of(pays[s], 1);
            steps[s] = Part.of(1, 1);
        }
        return mean(weights, start, set, share, gains).by(mean(weights, start, set, share, steps));
    }

    /** The greatest value of each state, of all ways. */
    static Part[] worths(int[] pays, int[][] weights, Part share) {
        Part[] worths = new Part[pays.length];
        for (int s = 0; s < pays.length; s++) {
            for (int set = 0; set < 1 << pays.length; set++) {
                Part value = value(pays, weights, s, set, share);
                worths[s] = worths[s] == null || value.against(worths[s]) > 0 ? value : worths[s];
            }
        }
        return worths;
    }

    static int sum(int[] row) {
        int sum = 0;
        for (int w : row) {
            sum += w;
        }
        return sum;
    }

    /** What is got from the start on: its own, and by the share what each state of the set gets that comes next. */
    private static Part mean(int[][] weights, int start, int set, Part share, Part[] gains) {
        int n = gains.length;
        Part[][] rows = new Part[n][n + 1];
        for (int s = 0; s < n; s++) {
            for (int t = 0; t < n; t++) {
                boolean goesOn = (set >> t & 1) != 0;
                Part goes = goesOn ? share.times(Part.of(weights[s][t], sum(weights[s]))) : Part.ZERO;
                rows[s][t] = Part.of(s == t ? 1 : 0, 1).less(goes);
            }
            rows[s][n] = gains[s];
        }
        for (int k = 0; k < n; k++) {
            Part pivot = rows[k][k];
            for (int c = k; c <= n; c++) {
                rows[k][c] = rows[k][c].by(pivot);
            }
            for (int r = 0; r < n; r++) {
                Part head = rows[r][k];
                for (int c = k; c <= n && r != k && head.top().signum() != 0; c++) {
                    rows[r][c] = rows[r][c].less(head.times(rows[k][c]));
                }
            }
        }
        return rows[start][n];
    }
}
