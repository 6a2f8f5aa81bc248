/** The boundary cases of promises 1 to 8 and 12, on the position: a method for each sentence. */
public final class PositionBoundaryTest {
    private static final int[] WRONG_PLAYERS = {Integer.MIN_VALUE, -2, -1, 2, 3, Integer.MAX_VALUE};
    private static final int[] WRONG_SQUARES = {Integer.MIN_VALUE, -64, -1, 64, 65, 127, 128, Integer.MAX_VALUE};

    public static void main(String[] args) {
        Checks.sentence("1: TurnedDiscs(): The beginning",
                PositionBoundaryTest::aNewObject);
        Checks.sentence("1: TurnedDiscs(): The beginning (of each object for itself)",
                PositionBoundaryTest::newObjectsAreApart);
        Checks.sentence("2 begin: The beginning again",
                PositionBoundaryTest::beginAgain);
        Checks.sentence("2 begin: the row is empty",
                PositionBoundaryTest::beginEmptiesTheRow);
        Checks.sentence("3 set: A position is set up: the squares of both players as bits",
                PositionBoundaryTest::setTakesBits);
        Checks.sentence("3 set: and who is to move",
                PositionBoundaryTest::setTakesWhoIsToMove);
        Checks.sentence("3 set: the row is empty",
                PositionBoundaryTest::setEmptiesTheRow);
        Checks.sentence("3 set: IllegalArgumentException when a square is in both",
                PositionBoundaryTest::setRefusesASquareInBoth);
        Checks.sentence("3 set: IllegalArgumentException when .. player is not 0 or 1",
                PositionBoundaryTest::setRefusesAPlayer);
        Checks.sentence("4 discs: The squares of a player as bits",
                PositionBoundaryTest::discsAsBits);
        Checks.sentence("4 discs: IllegalArgumentException when player is not 0 or 1",
                PositionBoundaryTest::discsRefusesAPlayer);
        Checks.sentence("5 player: The player to move",
                PositionBoundaryTest::playerToMove);
        Checks.sentence("6 moves: The squares on which the player to move can move, as bits",
                PositionBoundaryTest::movesAsBits);
        Checks.sentence("7 turns: The squares of the discs that the player to move would turn by a disc on a"
                        + " square, as bits",
                PositionBoundaryTest::turnsAsBits);
        Checks.sentence("7 turns: 0 when it is not empty",
                PositionBoundaryTest::turnsOfATakenSquare);
        Checks.sentence("7 turns: 0 when .. none would be turned",
                PositionBoundaryTest::turnsOfNone);
        Checks.sentence("7 turns: IllegalArgumentException when square is not 0 .. 63",
                PositionBoundaryTest::turnsRefusesASquare);
        Checks.sentence("8 over: Whether the game is over",
                PositionBoundaryTest::overOrNot);
        Checks.sentence("12 difference: The number of player 0's discs less that of player 1's",
                PositionBoundaryTest::difference);
        Checks.end();
    }

    private static void dueBeginning(String when, TurnedDiscs x) {
        Checks.due("discs(0) " + when, x.discs(0), Checks.bits(28, 35));
        Checks.due("discs(1) " + when, x.discs(1), Checks.bits(27, 36));
        Checks.due("player() " + when, x.player(), 0);
        Checks.due("moves() " + when, x.moves(), Checks.bits(19, 26, 37, 44));
        Checks.due("over() " + when, x.over(), false);
        dueEmptyRow(when, x);
    }

    private static void dueEmptyRow(String when, TurnedDiscs x) {
        Checks.due("made() " + when, x.made(), 0);
        Checks.noElement("back() " + when, () -> x.back());
        Checks.due("made() after back() " + when, x.made(), 0);
    }

    private static void aNewObject() {
        dueBeginning("of a new object", new TurnedDiscs());
    }

    private static void newObjectsAreApart() {
        TurnedDiscs first = new TurnedDiscs();
        TurnedDiscs second = new TurnedDiscs();
        first.play(19);
        dueBeginning("of an object while another is played on", second);
        dueBeginning("of an object made later", new TurnedDiscs());
        second.play(44);
        second.play(43);
        Checks.due("discs(0) of the first", first.discs(0), Checks.bits(19, 27, 28, 35));
        Checks.due("back() of the first", first.back(), 19);
        dueBeginning("of the first, after its back()", first);
        Checks.due("back() of the second", second.back(), 43);
        Checks.due("back() of the second again", second.back(), 44);
        dueBeginning("of the second, after its back()", second);
    }

    private static void beginAgain() {
        TurnedDiscs[] before = {
            new TurnedDiscs(), Checks.afterOneMove(), Checks.afterAPass(), Checks.at(0, 0, 1), Checks.at(-1L, 0, 1),
            LongGames.MOVE_LEFT.played(), LongGames.OVER_AT_64.played()
        };
        for (int i = 0; i < before.length; i++) {
            before[i].begin();
            dueBeginning("after begin, " + i, before[i]);
            before[i].begin();
            dueBeginning("after begin once more, " + i, before[i]);
        }
    }

    private static void beginEmptiesTheRow() {
        for (int length : new int[] {0, 1, 63, 64}) {
            TurnedDiscs x = LongGames.PASS_LEFT.played(length);
            x.begin();
            dueEmptyRow("after begin behind " + length, x);
            Checks.due("play(19) then", x.play(19), 1);
            Checks.due("made() then", x.made(), 1);
            Checks.due("back() then", x.back(), 19);
            dueEmptyRow("after back() then", x);
        }
    }

    private static void setTakesBits() {
        long[][] boards = {
            {0, 0}, {-1L, 0}, {0, -1L}, {1L, Long.MIN_VALUE}, {Long.MIN_VALUE, 1L}, {Long.MAX_VALUE, Long.MIN_VALUE},
            {0x5555555555555555L, 0xAAAAAAAAAAAAAAAAL}, {0x00000000FFFFFFFFL, 0xFFFFFFFF00000000L}
        };
        for (long[] board : boards) {
            for (int player = 0; player <= 1; player++) {
                TurnedDiscs x = Checks.afterOneMove();
                x.set(board[0], board[1], player);
                Checks.due("discs(0) of " + board[0], x.discs(0), board[0]);
                Checks.due("discs(1) of " + board[1], x.discs(1), board[1]);
            }
        }
    }

    private static void setTakesWhoIsToMove() {
        for (int before = 0; before <= 1; before++) {
            for (int player = 0; player <= 1; player++) {
                TurnedDiscs x = Checks.at(1L, 2L, before);
                x.set(Checks.bits(10), Checks.bits(11), player);
                Checks.due("player() set to " + player, x.player(), player);
                Checks.due("moves() of " + player, x.moves(), player == 0 ? Checks.bits(12) : Checks.bits(9));
            }
        }
        // Also one who has no move, and in a game that is over.
        Checks.due("player() who must pass", Checks.passDue().player(), 0);
        Checks.due("player() of an empty board", Checks.at(0, 0, 1).player(), 1);
    }

    private static void setEmptiesTheRow() {
        for (int length : new int[] {0, 1, 63, 64}) {
            TurnedDiscs x = LongGames.MOVE_LEFT.played(length);
            // The very same position: the row is empty all the same.
            x.set(x.discs(0), x.discs(1), x.player());
            dueEmptyRow("after set behind " + length, x);
        }
        TurnedDiscs x = LongGames.MOVE_LEFT.played();
        x.set(x.discs(0), x.discs(1), x.player());
        int move = Long.numberOfTrailingZeros(x.moves());
        x.play(move);
        Checks.due("made() after a move that found the row full before", x.made(), 1);
        Checks.due("back() from it", x.back(), move);
    }

    private static void setRefusesASquareInBoth() {
        for (int s = 0; s < 64; s++) {
            long square = 1L << s;
            Checks.refusedArgument("set with " + s + " in both", Checks::afterOneMove,
                    x -> x.set(square, square, 0));
            Checks.refusedArgument("set with " + s + " in both, the board full", Checks::afterOneMove,
                    x -> x.set(-1L, square, 1));
            Checks.due("set with " + s + " in one alone",
                    Checks.answer(() -> new TurnedDiscs().set(~square, square, 1)), "nothing");
        }
        Checks.refusedArgument("set with all in both", LongGames.MOVE_LEFT::played, x -> x.set(-1L, -1L, 0));
        Checks.due("set with none in both", Checks.answer(() -> new TurnedDiscs().set(0, 0, 0)), "nothing");
    }

    private static void setRefusesAPlayer() {
        for (int wrong : WRONG_PLAYERS) {
            Checks.refusedArgument("set for player " + wrong, Checks::afterOneMove,
                    x -> x.set(1L, 2L, wrong));
            Checks.refusedArgument("set for player " + wrong + ", a square in both", Checks::afterAPass,
                    x -> x.set(1L, 1L, wrong));
        }
        for (int player = 0; player <= 1; player++) {
            int right = player;
            Checks.due("set for player " + right, Checks.answer(() -> new TurnedDiscs().set(1L, 2L, right)), "nothing");
        }
    }

    private static void discsAsBits() {
        for (int toMove = 0; toMove <= 1; toMove++) {
            Checks.due("discs(0) of none", Checks.at(0, -1L, toMove).discs(0), 0);
            Checks.due("discs(1) of all", Checks.at(0, -1L, toMove).discs(1), -1L);
            Checks.due("discs(0) of square 63", Checks.at(1L << 63, 1L, toMove).discs(0), Long.MIN_VALUE);
            Checks.due("discs(1) of square 0", Checks.at(1L << 63, 1L, toMove).discs(1), 1);
        }
        TurnedDiscs x = Checks.at(Checks.bits(2), Checks.bits(1), 0);
        x.play(0);
        Checks.due("discs(1) when the last one is turned", x.discs(1), 0);
        Checks.due("discs(0) then", x.discs(0), 7L);
    }

    private static void discsRefusesAPlayer() {
        for (int wrong : WRONG_PLAYERS) {
            Checks.refusedArgument("discs(" + wrong + ")", TurnedDiscs::new, x -> x.discs(wrong));
            Checks.refusedArgument("discs(" + wrong + ") behind a move", Checks::afterOneMove,
                    x -> x.discs(wrong));
        }
        Checks.due("discs(0)", new TurnedDiscs().discs(0), Checks.bits(28, 35));
        Checks.due("discs(1)", new TurnedDiscs().discs(1), Checks.bits(27, 36));
    }

    private static void playerToMove() {
        TurnedDiscs x = new TurnedDiscs();
        Checks.due("player() at the beginning", x.player(), 0);
        x.play(19);
        Checks.due("player() after a move", x.player(), 1);
        x.back();
        Checks.due("player() after back", x.player(), 0);
        TurnedDiscs y = Checks.passDue();
        y.play(64);
        Checks.due("player() after a pass", y.player(), 1);
        y.play(2);
        Checks.due("player() after the last move", y.player(), 0);
        y.back();
        y.back();
        Checks.due("player() after the pass is taken back", y.player(), 0);
        TurnedDiscs z = LongGames.MOVE_LEFT.played();
        Checks.due("player() with 64 in the row", z.player(), 0);
    }

    private static void movesAsBits() {
        Checks.due("moves() of none", Checks.passDue().moves(), 0);
        Checks.due("moves() on an empty board", Checks.at(0, 0, 0).moves(), 0);
        Checks.due("moves() on a full board", Checks.at(0x0FL, ~0x0FL, 0).moves(), 0);
        Checks.due("moves() of one who has no disc", Checks.at(0, Checks.bits(27, 28), 0).moves(), 0);
        Checks.due("moves() where the other one has no disc", Checks.at(Checks.bits(27, 28), 0, 0).moves(), 0);
        Checks.due("moves() of square 0", Checks.at(Checks.bits(16), Checks.bits(8), 0).moves(), 1L);
        Checks.due("moves() of square 63", Checks.at(Checks.bits(47), Checks.bits(55), 0).moves(), Long.MIN_VALUE);
        // A ring round the middle square: all of the outer ring of 5 by 5 that is in a line with it.
        TurnedDiscs ring = Checks.at(Checks.bits(27), Checks.bits(18, 19, 20, 26, 28, 34, 35, 36), 0);
        Checks.due("moves() in eight directions", ring.moves(), Checks.bits(9, 11, 13, 25, 29, 41, 43, 45));
        // Taken squares are no moves, whoever has them.
        Checks.due("moves() with the end taken", Checks.at(Checks.bits(0, 2), Checks.bits(1), 0).moves(), 0);
        Checks.due("moves() with the whole row taken", Checks.at(Checks.bits(0), 0xFEL, 0).moves(), 0);
    }

    private static void turnsAsBits() {
        Checks.due("turns(0)", Checks.at(Checks.bits(2), Checks.bits(1), 0).turns(0), 2L);
        Checks.due("turns(63)", Checks.at(Checks.bits(61), Checks.bits(62), 0).turns(63), 1L << 62);
        Checks.due("turns(55) over none on 63", Checks.at(Checks.bits(61), Checks.bits(62, 63), 0).turns(55), 0);
        Checks.due("turns(7), up to 63", Checks.at(1L << 63, 0x0080808080808000L, 0).turns(7), 0x0080808080808000L);
        Checks.due("turns(27) for the one who waits", Checks.at(Checks.bits(29), Checks.bits(28), 1).turns(27), 0);
        TurnedDiscs x = new TurnedDiscs();
        String before = Checks.seen(x);
        Checks.due("turns(19)", x.turns(19), Checks.bits(27));
        Checks.due("what turns leaves", Checks.seen(x), before);
    }

    private static void turnsOfATakenSquare() {
        // In the line from 27 there would be something to turn, if 27 were empty.
        long own = Checks.bits(29);
        long other = Checks.bits(28);
        Checks.due("turns(27) when it is empty", Checks.at(own, other, 0).turns(27), other);
        Checks.due("turns(27) when it is the player's", Checks.at(own | 1L << 27, other, 0).turns(27), 0);
        Checks.due("turns(27) when it is the other one's", Checks.at(own, other | 1L << 27, 0).turns(27), 0);
        Checks.due("turns(0) when it is taken", Checks.at(Checks.bits(0, 2), Checks.bits(1), 0).turns(0), 0);
        Checks.due("turns(63) when it is taken", Checks.at(Checks.bits(61, 63), Checks.bits(62), 0).turns(63), 0);
        TurnedDiscs full = Checks.at(0x5555555555555555L, 0xAAAAAAAAAAAAAAAAL, 0);
        for (int s = 0; s < 64; s++) {
            Checks.due("turns(" + s + ") on a full board", full.turns(s), 0);
        }
    }

    private static void turnsOfNone() {
        TurnedDiscs pass = Checks.passDue();
        TurnedDiscs empty = Checks.at(0, 0, 0);
        for (int s = 0; s < 64; s++) {
            Checks.due("turns(" + s + ") of one who must pass", pass.turns(s), 0);
            Checks.due("turns(" + s + ") on an empty board", empty.turns(s), 0);
        }
        TurnedDiscs x = new TurnedDiscs();
        Checks.due("turns(18), with none in a line", x.turns(18), 0);
        Checks.due("turns(20), with an own disc first", x.turns(20), 0);
        Checks.due("turns(34), with an own disc first", x.turns(34), 0);
    }

    private static void turnsRefusesASquare() {
        for (int wrong : WRONG_SQUARES) {
            Checks.refusedArgument("turns(" + wrong + ")", Checks::afterOneMove, x -> x.turns(wrong));
            // Square 0 and square 63 have something to turn here: -1 and 64 are not taken for them.
            Checks.refusedArgument("turns(" + wrong + ") with corners to win",
                    () -> Checks.at(Checks.bits(2, 61), Checks.bits(1, 62), 0), x -> x.turns(wrong));
            Checks.refusedArgument("turns(" + wrong + ") when a pass is due", Checks::passDue,
                    x -> x.turns(wrong));
        }
        TurnedDiscs x = Checks.at(Checks.bits(2, 61), Checks.bits(1, 62), 0);
        Checks.due("turns(0)", x.turns(0), Checks.bits(1));
        Checks.due("turns(1)", x.turns(1), 0);
        Checks.due("turns(62)", x.turns(62), 0);
        Checks.due("turns(63)", x.turns(63), Checks.bits(62));
    }

    private static void overOrNot() {
        Checks.due("over() of an empty board", Checks.at(0, 0, 0).over(), true);
        Checks.due("over() of a full board", Checks.at(-1L, 0, 0).over(), true);
        Checks.due("over() with one empty square and no move", Checks.at(-2L, 0, 1).over(), true);
        long one = Checks.bits(1);
        Checks.due("over() with one empty square and a move", Checks.at(~3L, one, 0).over(), false);
        Checks.due("over() with one empty square and a pass", Checks.at(~3L, one, 1).over(), false);
        // 64 in the row are no end of the game.
        Checks.due("over() with a full row and a move", LongGames.MOVE_LEFT.played().over(), false);
        Checks.due("over() with a full row and a pass", LongGames.PASS_LEFT.played().over(), false);
        Checks.due("over() with a full row and neither", LongGames.OVER_AT_64.played().over(), true);
        Checks.due("over() one before", LongGames.OVER_AT_64.played(63).over(), false);
    }

    private static void difference() {
        for (int toMove = 0; toMove <= 1; toMove++) {
            Checks.due("difference() of all and none", Checks.at(-1L, 0, toMove).difference(), 64);
            Checks.due("difference() of none and all", Checks.at(0, -1L, toMove).difference(), -64);
            Checks.due("difference() of none", Checks.at(0, 0, toMove).difference(), 0);
            Checks.due("difference() of 32 and 32", Checks.at(0xFFFFFFFFL, ~0xFFFFFFFFL, toMove).difference(), 0);
            Checks.due("difference() of 1 and 0", Checks.at(1L << 63, 0, toMove).difference(), 1);
            Checks.due("difference() of 0 and 1", Checks.at(0, 1L << 63, toMove).difference(), -1);
        }
        TurnedDiscs x = new TurnedDiscs();
        x.play(19);
        Checks.due("difference() when player 1 is to move", x.difference(), 3);
        x.play(18);
        Checks.due("difference() when player 0 is", x.difference(), 0);
        x.back();
        Checks.due("difference() after back", x.difference(), 3);
    }
}
