/**
 * How many rows there are from the beginning of Othello has been counted by many programs. The rows
 * of more than four moves are put together here: count behind each row of the first moves.
 */
public final class KnownCountsTest {
    private static final long[] ROWS = {1, 4, 12, 56, 244, 1396, 8200, 55092, 390216};

    public static void main(String[] args) {
        for (int first = 0; first <= 4; first++) {
            for (int n = 0; n <= 4; n++) {
                long rows = rowsBehind(new TurnedDiscs(), first, n);
                Checks.due("count(" + n + ") behind the rows of " + first, rows, ROWS[first + n]);
            }
        }
        Checks.end();
    }

    /** An object of its own for each position, as each is good for 512 calls only. */
    private static long rowsBehind(TurnedDiscs x, int first, int n) {
        if (first == 0) {
            return x.count(n);
        }
        long rows = 0;
        for (long left = x.moves(); left != 0; left &= left - 1) {
            TurnedDiscs y = Checks.at(x.discs(0), x.discs(1), x.player());
            y.play(Long.numberOfTrailingZeros(left));
            rows += rowsBehind(y, first - 1, n);
        }
        return rows;
    }
}
