import java.util.List;

/** The boundary cases of promises 17 and 18, border and safe: a method for each sentence. */
public final class ShapeBoundaryTest {
    private static final int[] WRONG_PLAYERS = {Integer.MIN_VALUE, -2, -1, 2, 3, Integer.MAX_VALUE};

    public static void main(String[] args) {
        Checks.sentence("17 border: How many squares next to discs of a player (in the eight directions) are empty",
                ShapeBoundaryTest::borderOfOneDisc);
        Checks.sentence("17 border: squares next to discs of a player (in the eight directions, not round the edge)",
                ShapeBoundaryTest::borderIsNextTo);
        Checks.sentence("17 border: How many squares .. are empty (and not taken)",
                ShapeBoundaryTest::borderIsEmpty);
        Checks.sentence("17 border: How many squares (each of them once)",
                ShapeBoundaryTest::borderCountsASquareOnce);
        Checks.sentence("17 border: discs of a player (and of this one alone, whoever is to move)",
                ShapeBoundaryTest::borderOfAPlayer);
        Checks.sentence("17 border: IllegalArgumentException when player is not 0 or 1",
                ShapeBoundaryTest::borderRefusesAPlayer);
        Checks.sentence("18 safe: The squares of a player's discs",
                ShapeBoundaryTest::safeIsThePlayersOwn);
        Checks.sentence("18 safe: from which in each of the four pairs of opposite directions one line at least"
                        + " has nothing but discs of that player",
                ShapeBoundaryTest::safeInEachPair);
        Checks.sentence("18 safe: one line at least has nothing but discs of that player",
                ShapeBoundaryTest::safeWithOneLine);
        Checks.sentence("18 safe: (a line without squares, at the edge, too)",
                ShapeBoundaryTest::safeAtTheEdge);
        Checks.sentence("18 safe: IllegalArgumentException when player is not 0 or 1",
                ShapeBoundaryTest::safeRefusesAPlayer);
        Checks.end();
    }

    private static boolean areNext(int s, int t) {
        return s != t && Math.abs(s / 8 - t / 8) <= 1 && Math.abs(s % 8 - t % 8) <= 1;
    }

    private static void borderOfOneDisc() {
        for (int s = 0; s < 64; s++) {
            boolean outerRow = s / 8 == 0 || s / 8 == 7;
            boolean outerColumn = s % 8 == 0 || s % 8 == 7;
            int due = outerRow && outerColumn ? 3 : outerRow || outerColumn ? 5 : 8;
            Checks.due("border(0) of " + s, Checks.at(1L << s, 0, 0).border(0), due);
            Checks.due("border(1) of " + s, Checks.at(0, 1L << s, 0).border(1), due);
        }
        Checks.due("border(0) of no disc", Checks.at(0, 0, 0).border(0), 0);
        Checks.due("border(1) of a full board", Checks.at(0, -1L, 0).border(1), 0);
        Checks.due("border(0) of none on a full board", Checks.at(0, -1L, 0).border(0), 0);
        Checks.due("border(0) of all but one", Checks.at(Long.MAX_VALUE, 0, 0).border(0), 1);
        // Every second square of every second row: all others are next to one of them.
        long grid = 0x0055005500550055L;
        Checks.due("border(0) of the most", Checks.at(grid, 0, 1).border(0), 48);
    }

    /** With one empty square and one disc of the player's it is seen which squares are next to it. */
    private static void borderIsNextTo() {
        for (int s = 0; s < 64; s++) {
            for (int t = 0; t < 64; t++) {
                if (s != t) {
                    long disc = 1L << s;
                    TurnedDiscs x = Checks.at(disc, ~(disc | 1L << t), 0);
                    Checks.due("border(0) of " + s + " with " + t + " empty", x.border(0), areNext(s, t) ? 1 : 0);
                }
            }
        }
    }

    private static void borderIsEmpty() {
        long near = Checks.bits(18, 19, 20, 26, 28, 34, 35, 36);
        for (int taken = 0; taken < 256; taken++) {
            long others = 0;
            int bit = 0;
            for (int s = 0; s < 64; s++) {
                if ((near >>> s & 1) == 1) {
                    others |= (long) (taken >> bit & 1) << s;
                    bit++;
                }
            }
            Checks.due("border(0) of 27 beside " + others, Checks.at(Checks.bits(27), others, 0).border(0),
                    8 - Integer.bitCount(taken));
        }
        Checks.due("border(0) of a block of nine", Checks.at(near | Checks.bits(27), 0, 0).border(0), 16);
    }

    private static void borderCountsASquareOnce() {
        // The squares 1 and 9 are next to both.
        Checks.due("border(0) of 0 and 2", Checks.at(Checks.bits(0, 2), 0, 0).border(0), 6);
        // All eight squares round 27 are the player's: 27 counts once.
        long near = Checks.bits(18, 19, 20, 26, 28, 34, 35, 36);
        Checks.due("border(0) of a ring", Checks.at(near, 0, 0).border(0), 17);
        Checks.due("border(1) of a ring, nothing empty but 27", Checks.at(~(near | 1L << 27), near, 0).border(1), 1);
    }

    private static void borderOfAPlayer() {
        for (int toMove = 0; toMove <= 1; toMove++) {
            TurnedDiscs x = Checks.at(Checks.bits(0), Checks.bits(27), toMove);
            Checks.due("border(0)", x.border(0), 3);
            Checks.due("border(1)", x.border(1), 8);
            // Squares next to discs of both count for both.
            TurnedDiscs y = Checks.at(Checks.bits(0), Checks.bits(2), toMove);
            Checks.due("border(0) beside the other one", y.border(0), 3);
            Checks.due("border(1) beside the other one", y.border(1), 5);
        }
    }

    private static void borderRefusesAPlayer() {
        for (int wrong : WRONG_PLAYERS) {
            Checks.refusedArgument("border(" + wrong + ")", TurnedDiscs::new, x -> x.border(wrong));
            Checks.refusedArgument("border(" + wrong + ") in a full row", LongGames.MOVE_LEFT::played,
                    x -> x.border(wrong));
        }
        Checks.due("border(0)", new TurnedDiscs().border(0), 10);
        Checks.due("border(1)", new TurnedDiscs().border(1), 10);
    }

    private static void safeIsThePlayersOwn() {
        for (int toMove = 0; toMove <= 1; toMove++) {
            Checks.due("safe(0) of all", Checks.at(-1L, 0, toMove).safe(0), -1L);
            Checks.due("safe(1) of none", Checks.at(-1L, 0, toMove).safe(1), 0);
            Checks.due("safe(0) of an empty board", Checks.at(0, 0, toMove).safe(0), 0);
            // 0 is empty and 7 the other one's: corners both, and neither is player 0's.
            TurnedDiscs x = Checks.at(~0x81L, 0x80L, toMove);
            Checks.due("safe(0) without 0 and 7", x.safe(0) & 0x81L, 0);
            Checks.due("safe(1) with 7", x.safe(1), 0x80L);
        }
    }

    /**
     * All discs are the player's but one square in either line of one pair: with a hole in both
     * the disc is not safe, wherever in the lines they are.
     */
    private static void safeInEachPair() {
        for (int s = 0; s < 64; s++) {
            for (int pair = 0; pair < 4; pair++) {
                for (int a : line(s, pair)) {
                    for (int b : line(s, 7 - pair)) {
                        long holes = 1L << a | 1L << b;
                        String what = " of " + s + " with holes at " + a + " and " + b;
                        Checks.due("safe(0)" + what, Checks.at(~holes, 0, 0).safe(0) >>> s & 1, 0);
                        Checks.due("safe(0), not empty," + what, Checks.at(~holes, holes, 0).safe(0) >>> s & 1, 0);
                        Checks.due("safe(1)" + what, Checks.at(1L << a, ~holes, 0).safe(1) >>> s & 1, 0);
                    }
                }
            }
        }
    }

    private static void safeWithOneLine() {
        for (int hole = 0; hole < 64; hole++) {
            long all = ~(1L << hole);
            Checks.due("safe(0) with a hole at " + hole, Checks.at(all, 0, 0).safe(0), all);
            Checks.due("safe(1) with another disc at " + hole, Checks.at(1L << hole, all, 0).safe(1), all);
        }
        // Of each pair one line whole, the other with no disc of the player's at all.
        for (int s = 0; s < 64; s++) {
            for (int lines = 0; lines < 16; lines++) {
                long discs = 1L << s;
                for (int pair = 0; pair < 4; pair++) {
                    for (int t : line(s, (lines >> pair & 1) == 0 ? pair : 7 - pair)) {
                        discs |= 1L << t;
                    }
                }
                Checks.due("safe(0) of " + s + " with " + discs, Checks.at(discs, 0, 0).safe(0) >>> s & 1, 1);
                Checks.due("safe(1) of " + s + " with " + discs, Checks.at(~discs, discs, 0).safe(1) >>> s & 1, 1);
            }
        }
    }

    private static void safeAtTheEdge() {
        long corners = Checks.bits(0, 7, 56, 63);
        for (int s = 0; s < 64; s++) {
            long disc = 1L << s;
            Checks.due("safe(0) of " + s + " alone", Checks.at(disc, 0, 0).safe(0), disc & corners);
            Checks.due("safe(1) of " + s + " alone", Checks.at(~disc, disc, 0).safe(1), disc & corners);
        }
        // On each edge a disc is held by one line along it; inside the edge the same run holds nothing.
        int[][] edges = {{0, 1}, {7, -1}, {0, 8}, {56, -8}, {7, 8}, {63, -8}, {56, 1}, {63, -1}};
        for (int[] edge : edges) {
            long run = 0;
            for (int i = 0; i < 7; i++) {
                run |= 1L << (edge[0] + i * edge[1]);
                Checks.due("safe(0) of a run of " + (i + 1) + " from " + edge[0] + " by " + edge[1],
                        Checks.at(run, 0, 0).safe(0), run);
                long withoutCorner = run & ~(1L << edge[0]);
                Checks.due("safe(0) of it without its corner",
                        Checks.at(withoutCorner, 0, 0).safe(0), 0);
            }
        }
        long secondRow = 0xFF00L;
        Checks.due("safe(0) of the second row", Checks.at(secondRow, 0, 0).safe(0), 0);
        Checks.due("safe(0) of the first row", Checks.at(0xFFL, 0, 0).safe(0), 0xFFL);
        Checks.due("safe(0) of both", Checks.at(0xFFFFL, 0, 0).safe(0), 0xFFFFL);
    }

    private static void safeRefusesAPlayer() {
        for (int wrong : WRONG_PLAYERS) {
            Checks.refusedArgument("safe(" + wrong + ")", TurnedDiscs::new, x -> x.safe(wrong));
            Checks.refusedArgument("safe(" + wrong + ") in a full row", LongGames.MOVE_LEFT::played,
                    x -> x.safe(wrong));
        }
        TurnedDiscs x = Checks.at(Checks.bits(0), Checks.bits(63), 0);
        Checks.due("safe(0)", x.safe(0), Checks.bits(0));
        Checks.due("safe(1)", x.safe(1), Checks.bits(63));
    }

    /** Directions d and 7 - d are opposite ones. */
    private static List<Integer> line(int square, int direction) {
        return PlainOthello.line(square, PlainOthello.DIRECTIONS[direction]);
    }
}
