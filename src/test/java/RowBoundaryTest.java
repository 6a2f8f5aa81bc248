/** The boundary cases of promises 9 to 11, on the row of moves and passes: a method for each sentence. */
public final class RowBoundaryTest {
    // Own discs at 2 and 61, the other one's at 1 and 62: both 0 and 63 are moves.
    private static final long CORNERS_0 = Checks.bits(2, 61);
    private static final long CORNERS_1 = Checks.bits(1, 62);

    // All inner squares in the eight lines from 27, and their ends: no move turns more than these 19.
    private static final long MOST_TURNED = Checks.bits(19, 11, 35, 43, 51, 26, 25, 28, 29, 30, 18, 9, 36, 45, 54,
            20, 13, 34, 41);
    private static final long MOST_ENDS = Checks.bits(3, 59, 24, 31, 0, 63, 6, 48);

    public static void main(String[] args) {
        Checks.sentence("9 play: The player to move makes a move on a square .. how many discs are turned",
                RowBoundaryTest::playAnswersHowMany);
        Checks.sentence("9 play: or passes with 64: how many discs are turned",
                RowBoundaryTest::playPassesWith64);
        Checks.sentence("9 play: IllegalArgumentException when square is not 0 .. 64",
                RowBoundaryTest::playRefusesASquare);
        Checks.sentence("9 play: IllegalArgumentException when square is .. no move",
                RowBoundaryTest::playRefusesNoMove);
        Checks.sentence("9 play: IllegalArgumentException when .. 64 and the player must not pass (there is a move)",
                RowBoundaryTest::playRefusesAPassWithAMove);
        Checks.sentence("9 play: IllegalArgumentException when .. 64 and the player must not pass (the game is over)",
                RowBoundaryTest::playRefusesAPassWhenOver);
        Checks.sentence("9 play: IllegalStateException when there are 64 moves and passes in the row (a move)",
                RowBoundaryTest::playRefusesTheMove65);
        Checks.sentence("9 play: IllegalStateException when there are 64 moves and passes in the row (a pass)",
                RowBoundaryTest::playRefusesThePass65);
        Checks.sentence("10 back: The latest move or pass of the row is taken back",
                RowBoundaryTest::backTakesTheLatest);
        Checks.sentence("10 back: its square",
                RowBoundaryTest::backAnswersTheSquare);
        Checks.sentence("10 back: or 64",
                RowBoundaryTest::backAnswers64);
        Checks.sentence("10 back: The latest move or pass of the row (of 64)",
                RowBoundaryTest::backFromAFullRow);
        Checks.sentence("10 back: NoSuchElementException when there is none",
                RowBoundaryTest::backWithNone);
        Checks.sentence("11 made: How many moves and passes the row has",
                RowBoundaryTest::madeCounts);
        Checks.sentence("11 made: How many moves and passes the row has (and no refused ones)",
                RowBoundaryTest::madeCountsNoRefusedCall);
        Checks.end();
    }

    private static TurnedDiscs corners() {
        return Checks.at(CORNERS_0, CORNERS_1, 0);
    }

    private static void playAnswersHowMany() {
        TurnedDiscs least = corners();
        Checks.due("play(0), which turns one", least.play(0), 1);
        Checks.due("discs(0) after it", least.discs(0), CORNERS_0 | Checks.bits(0, 1));
        TurnedDiscs last = corners();
        Checks.due("play(63), which turns one", last.play(63), 1);
        Checks.due("discs(0) after it", last.discs(0), CORNERS_0 | Checks.bits(62, 63));
        TurnedDiscs most = Checks.at(MOST_TURNED, MOST_ENDS, 1);
        Checks.due("play(27), which turns the most", most.play(27), 19);
        Checks.due("discs(1) after it", most.discs(1), MOST_TURNED | MOST_ENDS | Checks.bits(27));
        Checks.due("discs(0) after it", most.discs(0), 0);
        Checks.due("player() after it", most.player(), 0);
    }

    private static void playPassesWith64() {
        TurnedDiscs x = Checks.passDue();
        Checks.due("play(64)", x.play(64), 0);
        Checks.due("player() after it", x.player(), 1);
        Checks.due("discs(0) after it", x.discs(0), 2L);
        Checks.due("discs(1) after it", x.discs(1), 1L);
        Checks.due("made() after it", x.made(), 1);
        TurnedDiscs y = Checks.at(1L, 2L, 1);
        Checks.due("play(64) of player 1", y.play(64), 0);
        Checks.due("player() after it", y.player(), 0);
    }

    private static void playRefusesASquare() {
        int[] wrongSquares = {Integer.MIN_VALUE, -65, -64, -1, 65, 66, 127, 128, Integer.MAX_VALUE};
        for (int wrong : wrongSquares) {
            // 0 and 63 are moves in the one, 64 may be passed in the other: the next numbers are not taken for them.
            Checks.refusedArgument("play(" + wrong + ") with corners", RowBoundaryTest::corners, x -> x.play(wrong));
            Checks.refusedArgument("play(" + wrong + ") for a pass", Checks::passDue, x -> x.play(wrong));
            Checks.refusedArgument("play(" + wrong + ") behind a move", Checks::afterOneMove,
                    x -> x.play(wrong));
        }
        Checks.due("play(0)", corners().play(0), 1);
        Checks.due("play(63)", corners().play(63), 1);
        Checks.due("play(64)", Checks.passDue().play(64), 0);
    }

    private static void playRefusesNoMove() {
        long moves = Checks.afterOneMove().moves();
        for (int s = 0; s < 64; s++) {
            int square = s;
            if ((moves >>> s & 1) == 0) {
                Checks.refusedArgument("play(" + s + ") behind 19", Checks::afterOneMove,
                        x -> x.play(square));
            }
            // The other one's move is none of the player who must pass, nor is any other square.
            Checks.refusedArgument("play(" + s + ") when a pass is due", Checks::passDue,
                    x -> x.play(square));
            Checks.refusedArgument("play(" + s + ") on a full board", () -> Checks.at(0x0FL, ~0x0FL, 1),
                    x -> x.play(square));
        }
        Checks.refusedArgument("play(0) on a taken square, with a line to turn",
                () -> Checks.at(Checks.bits(0, 2), Checks.bits(1), 0), x -> x.play(0));
    }

    private static void playRefusesAPassWithAMove() {
        Checks.refusedArgument("play(64) at the beginning", TurnedDiscs::new, x -> x.play(64));
        Checks.refusedArgument("play(64) behind a move", Checks::afterOneMove, x -> x.play(64));
        // One move each, none of the other one's.
        Checks.refusedArgument("play(64) with the move 0 alone", () -> Checks.at(Checks.bits(16), Checks.bits(8), 0),
                x -> x.play(64));
        Checks.refusedArgument("play(64) with the move 63 alone", () -> Checks.at(Checks.bits(47), Checks.bits(55), 0),
                x -> x.play(64));
        Checks.refusedArgument("play(64) with corners", RowBoundaryTest::corners, x -> x.play(64));
    }

    private static void playRefusesAPassWhenOver() {
        Checks.refusedArgument("play(64) on an empty board", () -> Checks.at(0, 0, 0), x -> x.play(64));
        Checks.refusedArgument("play(64) on a full board", () -> Checks.at(-1L, 0, 1), x -> x.play(64));
        Checks.refusedArgument("play(64) behind the last move", () -> {
            TurnedDiscs x = Checks.passDue();
            x.play(64);
            x.play(2);
            return x;
        }, x -> x.play(64));
        Checks.refusedArgument("play(64) in a full row", LongGames.OVER_AT_64::played, x -> x.play(64));
    }

    private static void playRefusesTheMove65() {
        for (LongGames game : new LongGames[] {LongGames.MOVE_LEFT, LongGames.MOVE_LEFT_OF_8}) {
            long moves = game.played().moves();
            Checks.due("there is a move", moves != 0, true);
            for (int s = 0; s < 64; s++) {
                int square = s;
                if ((moves >>> s & 1) == 1) {
                    Checks.refusedState("play(" + s + "), the 65th", game::played, x -> x.play(square));
                }
            }
            TurnedDiscs x = game.played();
            int square = Long.numberOfTrailingZeros(moves);
            x.back();
            x.play(game.square(63));
            Checks.due("made() with the 64th again", x.made(), 64);
            Checks.state("play(" + square + "), the 65th again", () -> x.play(square));
        }
        // One before, with 63 in the row, a move is made: the 64th.
        TurnedDiscs x = LongGames.PASS_LEFT.played(63);
        Checks.due("play(39), the 64th", Checks.answer(() -> x.play(39)).startsWith("throws"), false);
        Checks.due("made() then", x.made(), 64);
    }

    private static void playRefusesThePass65() {
        Checks.refusedState("play(64), the 65th", LongGames.PASS_LEFT::played, x -> x.play(64));
        // One before, with 63 in the row, a pass is made: the 64th.
        TurnedDiscs x = LongGames.MOVE_LEFT.played(63);
        Checks.due("play(64), the 64th", x.play(64), 0);
        Checks.due("made() then", x.made(), 64);
    }

    private static void backTakesTheLatest() {
        TurnedDiscs most = Checks.at(MOST_TURNED, MOST_ENDS, 1);
        most.play(27);
        most.back();
        Checks.due("discs(0) with what was turned most", most.discs(0), MOST_TURNED);
        Checks.due("discs(1) then", most.discs(1), MOST_ENDS);
        Checks.due("player() then", most.player(), 1);
        Checks.due("made() then", most.made(), 0);
        TurnedDiscs x = new TurnedDiscs();
        x.play(19);
        String behindOne = Checks.seen(x);
        x.play(18);
        x.back();
        Checks.due("what is behind one move", Checks.seen(x), behindOne);
        // What is played in place of what was taken back is the latest then.
        x.play(34);
        Checks.due("back() from the new one", x.back(), 34);
        Checks.due("back() from the old one", x.back(), 19);
        Checks.due("what is at the beginning", Checks.seen(x), Checks.seen(new TurnedDiscs()));
    }

    private static void backAnswersTheSquare() {
        TurnedDiscs x = corners();
        x.play(0);
        Checks.due("back() from 0", x.back(), 0);
        x.play(63);
        Checks.due("back() from 63", x.back(), 63);
        Checks.due("discs(0) then", x.discs(0), CORNERS_0);
        Checks.due("discs(1) then", x.discs(1), CORNERS_1);
        TurnedDiscs y = Checks.at(~3L, 2L, 0);
        y.finish();
        Checks.due("back() from what finish made", y.back(), 0);
    }

    private static void backAnswers64() {
        TurnedDiscs x = Checks.passDue();
        x.play(64);
        Checks.due("back() from the pass", x.back(), 64);
        Checks.due("player() then", x.player(), 0);
        Checks.due("discs(0) then", x.discs(0), 2L);
        Checks.due("discs(1) then", x.discs(1), 1L);
        Checks.due("made() then", x.made(), 0);
        Checks.due("play(64) again", x.play(64), 0);
        x.play(2);
        Checks.due("back() from the move behind it", x.back(), 2);
        Checks.due("back() from the pass again", x.back(), 64);
    }

    private static void backFromAFullRow() {
        LongGames[] full = {
            LongGames.MOVE_LEFT, LongGames.PASS_LEFT, LongGames.OVER_AT_64, LongGames.MOVE_LEFT_OF_8,
            LongGames.OVER_WITH_8
        };
        for (LongGames game : full) {
            TurnedDiscs x = game.played();
            Checks.due("made()", x.made(), 64);
            game.dueWayBack(x, 64);
        }
    }

    private static void backWithNone() {
        Checks.refused("back() of a new object", Checks.NO_ELEMENT, TurnedDiscs::new, x -> x.back());
        Checks.refused("back() after set", Checks.NO_ELEMENT, Checks::passDue, x -> x.back());
        Checks.refused("back() after begin", Checks.NO_ELEMENT, () -> {
            TurnedDiscs x = LongGames.MOVE_LEFT.played();
            x.begin();
            return x;
        }, x -> x.back());
        Checks.refused("back() after set in a full row", Checks.NO_ELEMENT, () -> {
            TurnedDiscs x = LongGames.MOVE_LEFT.played();
            x.set(1L, 2L, 1);
            return x;
        }, x -> x.back());
        Checks.refused("back() after back of the only one", Checks.NO_ELEMENT, () -> {
            TurnedDiscs x = Checks.afterOneMove();
            x.back();
            return x;
        }, x -> x.back());
        TurnedDiscs one = Checks.afterOneMove();
        Checks.due("back() with one", one.back(), 19);
        Checks.noElement("back() with none", () -> one.back());
        Checks.noElement("back() with none again", () -> one.back());
        Checks.due("play(19) then", one.play(19), 1);
        Checks.due("back() then", one.back(), 19);
    }

    private static void madeCounts() {
        Checks.due("made() of a new object", new TurnedDiscs().made(), 0);
        TurnedDiscs x = LongGames.MOVE_LEFT.played(0);
        for (int i = 0; i < 64; i++) {
            Checks.due("made() before " + i, x.made(), i);
            x.play(LongGames.MOVE_LEFT.square(i));
        }
        Checks.due("made() of a full row", x.made(), 64);
        for (int i = 63; i >= 0; i--) {
            x.back();
            Checks.due("made() back to " + i, x.made(), i);
        }
    }

    private static void madeCountsNoRefusedCall() {
        TurnedDiscs x = new TurnedDiscs();
        Checks.answer(() -> x.back());
        Checks.due("made() after a refused back", x.made(), 0);
        Checks.answer(() -> x.play(64));
        Checks.answer(() -> x.play(0));
        Checks.due("made() after refused plays", x.made(), 0);
        x.play(19);
        Checks.answer(() -> x.finish());
        Checks.answer(() -> x.set(1L, 1L, 0));
        Checks.due("made() after a refused finish and set", x.made(), 1);
        TurnedDiscs full = LongGames.PASS_LEFT.played();
        Checks.answer(() -> full.play(64));
        Checks.due("made() after a refused play in a full row", full.made(), 64);
    }
}
