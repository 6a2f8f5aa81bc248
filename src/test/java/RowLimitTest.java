/** The row of at most 64, which takes games with many passes from thin positions. */
public final class RowLimitTest {
    private static final long[] START_A = {524288L, 403701760L};
    private static final long[] START_B = {67108864L, 137573433344L};
    private static final long[] START_C = {1048576L, 604504064L};

    // 64 long, and there is a move then.
    private static final int[] A_MOVE_IS_LEFT = {
        28, 36, 46, 38, 30, 34, 44, 45, 53, 39, 29, 31, 23, 55, 54, 52, 47, 15, 60, 62, 19, 10,
        51, 58, 42, 50, 33, 32, 24, 16, 49, 40, 56, 48, 8, 35, 21, 43, 61, 22, 59, 41, 63, 13,
        57, 20, 25, 64, 17, 64, 9, 64, 2, 1, 0, 64, 7, 64, 3, 64, 14, 64, 11, 64
    };
    // 64 long, and there is a pass to be made then.
    private static final int[] A_PASS_IS_LEFT = {
        37, 29, 21, 12, 26, 34, 4, 25, 24, 16, 8, 18, 9, 10, 17, 11, 32, 5, 1, 3, 35, 33, 42, 40,
        48, 2, 41, 0, 13, 56, 64, 49, 64, 36, 43, 51, 50, 52, 53, 61, 64, 60, 64, 6, 64, 14, 64,
        58, 57, 44, 59, 54, 45, 22, 62, 63, 55, 47, 15, 31, 64, 30, 38, 39
    };
    // 57 long, with 7 empty squares and 7 moves to the end.
    private static final int[] JUST_FITS = {
        37, 18, 10, 11, 26, 25, 3, 2, 1, 36, 12, 34, 44, 4, 5, 21, 29, 13, 14, 6, 17, 0, 24, 33,
        35, 32, 9, 8, 40, 16, 42, 48, 64, 41, 64, 15, 7, 23, 31, 22, 64, 30, 64, 46, 38, 50, 55,
        43, 57, 59, 49, 58, 60, 39, 47, 45, 51
    };
    // 58 long, with 7 empty squares and 7 moves to the end.
    private static final int[] ONE_TOO_MANY = {
        38, 21, 11, 3, 2, 1, 22, 47, 36, 23, 13, 6, 5, 4, 15, 7, 18, 17, 64, 37, 39, 31, 64, 43,
        35, 44, 51, 53, 52, 45, 30, 58, 34, 27, 28, 60, 10, 9, 12, 25, 14, 64, 16, 8, 0, 64, 32,
        24, 33, 40, 48, 64, 41, 49, 42, 50, 59, 57
    };

    public static void main(String[] args) {
        aMoveTooMany();
        aPassTooMany();
        finishThatFits();
        finishTooLong();
        fullRowOfAGameThatIsOver();
        Checks.end();
    }

    private static TurnedDiscs played(long[] start, int[] squares) {
        TurnedDiscs x = new TurnedDiscs();
        x.set(start[0], start[1], 0);
        for (int square : squares) {
            x.play(square);
        }
        Checks.due("made() of the game", x.made(), squares.length);
        return x;
    }

    private static void wayBack(TurnedDiscs x, long[] start, int[] squares) {
        for (int i = squares.length - 1; i >= 0; i--) {
            Checks.due("back() to " + i, x.back(), squares[i]);
        }
        Checks.noElement("back() at the start", () -> x.back());
        Checks.due("discs(0) at the start", x.discs(0), start[0]);
        Checks.due("discs(1) at the start", x.discs(1), start[1]);
        Checks.due("player() at the start", x.player(), 0);
    }

    private static void aMoveTooMany() {
        TurnedDiscs x = played(START_B, A_MOVE_IS_LEFT);
        String before = Checks.seen(x);
        long moves = x.moves();
        Checks.due("there is a move", moves != 0, true);
        for (int s = -1; s <= 65; s++) {
            int square = s;
            boolean move = s >= 0 && s < 64 && (moves >>> s & 1) != 0;
            if (move) {
                Checks.state("play(" + s + ") in a full row", () -> x.play(square));
            } else {
                Checks.argument("play(" + s + ") in a full row", () -> x.play(square));
            }
        }
        Checks.state("finish() in a full row", () -> x.finish());
        Checks.due("a full row stays as it is", Checks.seen(x), before);
        Checks.due("count(1) looks past the full row", x.count(1), Long.bitCount(moves));
        Checks.due("best() looks past the full row", (moves >>> x.best() & 1) != 0, true);
        wayBack(x, START_B, A_MOVE_IS_LEFT);
    }

    private static void aPassTooMany() {
        TurnedDiscs x = played(START_A, A_PASS_IS_LEFT);
        String before = Checks.seen(x);
        Checks.due("no move", x.moves(), 0);
        Checks.due("not over", x.over(), false);
        Checks.due("best() is the pass", x.best(), 64);
        Checks.state("play(64) in a full row", () -> x.play(64));
        Checks.argument("play(0) in a full row", () -> x.play(0));
        Checks.state("finish() in a full row", () -> x.finish());
        Checks.due("a full row stays as it is", Checks.seen(x), before);
        Checks.due("back()", x.back(), 39);
        x.play(39);
        wayBack(x, START_A, A_PASS_IS_LEFT);
    }

    private static void finishThatFits() {
        TurnedDiscs x = played(START_A, JUST_FITS);
        int outcome = x.outcome();
        int sign = x.player() == 0 ? 1 : -1;
        Checks.due("finish() up to 64", x.finish(), 7);
        Checks.due("made() after it", x.made(), 64);
        Checks.due("over() after it", x.over(), true);
        Checks.due("difference() after it", x.difference(), sign * outcome);
        for (int i = 0; i < 7; i++) {
            x.back();
        }
        wayBack(x, START_A, JUST_FITS);
    }

    private static void finishTooLong() {
        TurnedDiscs x = played(START_C, ONE_TOO_MANY);
        TurnedDiscs alike = new TurnedDiscs();
        alike.set(x.discs(0), x.discs(1), x.player());
        Checks.due("finish() with an empty row", alike.finish(), 7);
        String before = Checks.seen(x);
        Checks.state("finish() up to 65", () -> x.finish());
        Checks.due("what it leaves", Checks.seen(x), before);
        wayBack(x, START_C, ONE_TOO_MANY);
    }

    private static void fullRowOfAGameThatIsOver() {
        TurnedDiscs x = played(START_A, JUST_FITS);
        x.finish();
        Checks.due("finish() of a game that is over", x.finish(), 0);
        Checks.due("made()", x.made(), 64);
        Checks.argument("play(64) of a game that is over", () -> x.play(64));
        x.begin();
        Checks.due("made() after begin", x.made(), 0);
        Checks.due("play(19) after begin", x.play(19), 1);
    }
}
