/** Games from thin positions, with many passes: they alone bring the row to its limit of 64. */
final class LongGames {
    private static final long[] START_A = {524288L, 403701760L};
    private static final long[] START_B = {67108864L, 137573433344L};
    private static final long[] START_C = {1048576L, 604504064L};

    /** 64 long, with 4 empty squares, and there is a move then. */
    static final LongGames MOVE_LEFT = new LongGames(START_B,
            28, 36, 46, 38, 30, 34, 44, 45, 53, 39, 29, 31, 23, 55, 54, 52, 47, 15, 60, 62, 19, 10,
            51, 58, 42, 50, 33, 32, 24, 16, 49, 40, 56, 48, 8, 35, 21, 43, 61, 22, 59, 41, 63, 13,
            57, 20, 25, 64, 17, 64, 9, 64, 2, 1, 0, 64, 7, 64, 3, 64, 14, 64, 11, 64);
    /** 64 long, with 3 empty squares, and there is a pass to be made then. */
    static final LongGames PASS_LEFT = new LongGames(START_A,
            37, 29, 21, 12, 26, 34, 4, 25, 24, 16, 8, 18, 9, 10, 17, 11, 32, 5, 1, 3, 35, 33, 42, 40,
            48, 2, 41, 0, 13, 56, 64, 49, 64, 36, 43, 51, 50, 52, 53, 61, 64, 60, 64, 6, 64, 14, 64,
            58, 57, 44, 59, 54, 45, 22, 62, 63, 55, 47, 15, 31, 64, 30, 38, 39);
    /** 64 long, with 1 empty square, and the game is over. */
    static final LongGames OVER_AT_64 = new LongGames(START_C,
            18, 10, 1, 12, 17, 11, 5, 25, 33, 27, 4, 40, 35, 9, 38, 13, 2, 36, 24, 3, 37, 34, 6, 39,
            42, 14, 22, 32, 28, 0, 8, 51, 48, 21, 60, 23, 46, 41, 44, 15, 50, 58, 43, 16, 30, 53, 59,
            47, 52, 7, 55, 63, 62, 61, 64, 31, 64, 56, 64, 54, 64, 45, 64, 49);
    /** 64 long, with 8 empty squares, and there is a move then. */
    static final LongGames MOVE_LEFT_OF_8 = new LongGames(START_A,
            37, 36, 35, 26, 21, 45, 33, 25, 24, 29, 54, 10, 38, 40, 1, 17, 42, 41, 8, 9, 49, 58, 57,
            56, 64, 43, 50, 44, 52, 22, 30, 34, 23, 53, 32, 63, 55, 59, 46, 51, 60, 48, 64, 61, 64, 16,
            64, 18, 64, 0, 64, 2, 64, 62, 64, 47, 64, 39, 64, 31, 64, 15, 64, 13);
    /** 64 long, with 8 empty squares, and the game is over. */
    static final LongGames OVER_WITH_8 = new LongGames(START_C,
            38, 21, 13, 22, 15, 47, 36, 5, 4, 3, 18, 37, 33, 27, 39, 17, 11, 25, 32, 9, 16, 31, 6, 10,
            8, 7, 35, 23, 64, 24, 1, 0, 64, 2, 64, 40, 64, 41, 64, 12, 64, 45, 34, 43, 53, 30, 48, 50,
            51, 14, 57, 56, 64, 28, 64, 44, 64, 52, 64, 58, 64, 49, 64, 62);

    /** 54 long: finish makes 6 moves and 3 passes, up to 63. */
    static final LongGames FINISH_TO_63 = new LongGames(START_C,
            18, 10, 33, 11, 1, 9, 2, 27, 38, 40, 16, 0, 25, 21, 17, 37, 28, 47, 13, 5, 41, 12, 22, 36,
            4, 15, 35, 34, 46, 30, 31, 49, 39, 32, 8, 23, 42, 45, 56, 14, 48, 43, 55, 44, 50, 53, 51,
            63, 62, 58, 7, 52, 57, 61);
    /** 57 long, with 7 empty squares: finish makes 7 moves, up to 64. */
    static final LongGames FINISH_TO_64 = new LongGames(START_A,
            37, 18, 10, 11, 26, 25, 3, 2, 1, 36, 12, 34, 44, 4, 5, 21, 29, 13, 14, 6, 17, 0, 24, 33,
            35, 32, 9, 8, 40, 16, 42, 48, 64, 41, 64, 15, 7, 23, 31, 22, 64, 30, 64, 46, 38, 50, 55,
            43, 57, 59, 49, 58, 60, 39, 47, 45, 51);
    /** 53 long: finish makes 7 moves and 4 passes, up to 64. */
    static final LongGames FINISH_TO_64_PASSING = new LongGames(START_C,
            18, 10, 1, 12, 17, 11, 5, 25, 33, 27, 4, 40, 35, 9, 38, 13, 2, 36, 24, 3, 37, 34, 6, 39,
            42, 14, 22, 32, 28, 0, 8, 51, 48, 21, 60, 23, 46, 41, 44, 15, 50, 58, 43, 16, 30, 53, 59,
            47, 52, 7, 55, 63, 62);
    /** 58 long, with 7 empty squares: finish would make 7 moves, up to 65. */
    static final LongGames FINISH_TO_65 = new LongGames(START_C,
            38, 21, 11, 3, 2, 1, 22, 47, 36, 23, 13, 6, 5, 4, 15, 7, 18, 17, 64, 37, 39, 31, 64, 43,
            35, 44, 51, 53, 52, 45, 30, 58, 34, 27, 28, 60, 10, 9, 12, 25, 14, 64, 16, 8, 0, 64, 32,
            24, 33, 40, 48, 64, 41, 49, 42, 50, 59, 57);
    /** 55 long: finish would make 6 moves and 4 passes, up to 65. */
    static final LongGames FINISH_TO_65_PASSING = new LongGames(START_C,
            38, 21, 13, 6, 5, 47, 37, 22, 7, 36, 31, 23, 45, 4, 18, 17, 35, 43, 15, 54, 52, 34, 11, 3,
            2, 61, 33, 44, 27, 42, 63, 39, 41, 51, 60, 48, 59, 58, 25, 50, 55, 12, 40, 32, 16, 9, 49,
            53, 14, 64, 0, 1, 28, 10, 62);

    private final long[] start;
    private final int[] squares;

    private LongGames(long[] start, int... squares) {
        this.start = start;
        this.squares = squares;
    }

    int length() {
        return squares.length;
    }

    TurnedDiscs played() {
        return played(squares.length);
    }

    /** The game's first moves and passes. */
    TurnedDiscs played(int first) {
        TurnedDiscs x = new TurnedDiscs();
        x.set(start[0], start[1], 0);
        for (int i = 0; i < first; i++) {
            x.play(squares[i]);
        }
        return x;
    }

    int square(int i) {
        return squares[i];
    }

    /** All the way back from an object that has just the game's first moves and passes in its row. */
    void dueWayBack(TurnedDiscs x, int first) {
        for (int i = first - 1; i >= 0; i--) {
            Checks.due("back() to " + i, x.back(), squares[i]);
        }
        Checks.noElement("back() at the start", () -> x.back());
        Checks.due("made() at the start", x.made(), 0);
        Checks.due("discs(0) at the start", x.discs(0), start[0]);
        Checks.due("discs(1) at the start", x.discs(1), start[1]);
        Checks.due("player() at the start", x.player(), 0);
    }
}
