import java.util.ArrayList;
import java.util.List;

/** The boundary cases of promises 13 to 16, count, outcome, best and finish: a method for each sentence. */
public final class SearchBoundaryTest {
    private static final LongGames[] LATE_GAMES = {
        LongGames.FINISH_TO_63, LongGames.FINISH_TO_64, LongGames.FINISH_TO_64_PASSING, LongGames.FINISH_TO_65,
        LongGames.FINISH_TO_65_PASSING, LongGames.MOVE_LEFT, LongGames.PASS_LEFT, LongGames.OVER_AT_64
    };

    public static void main(String[] args) {
        Checks.sentence("13 count: How many rows of n moves and passes there are from the position on",
                SearchBoundaryTest::countOfRows);
        Checks.sentence("13 count: 1 with n = 0",
                SearchBoundaryTest::countWithNone);
        Checks.sentence("13 count: a game that is over goes no further, and counts as one row, whatever is left of n",
                SearchBoundaryTest::countWhenOver);
        Checks.sentence("13 count: a game that is over .. counts as one row, whatever is left of n (beside others"
                        + " that go on)",
                SearchBoundaryTest::countWhereSomeGamesEnd);
        Checks.sentence("13 count: rows of n moves and passes (a pass is one of them)",
                SearchBoundaryTest::countOfPasses);
        Checks.sentence("13 count: IllegalArgumentException when n is not 0 .. 4",
                SearchBoundaryTest::countRefusesN);
        Checks.sentence("14 outcome: The outcome of the position",
                SearchBoundaryTest::outcomeOfThePosition);
        Checks.sentence("14 outcome: IllegalStateException when it has more than 7 empty squares",
                SearchBoundaryTest::outcomeWithSevenEmpty);
        Checks.sentence("15 best: The least square of those moves of the player to move that come to the outcome",
                SearchBoundaryTest::bestIsTheLeast);
        Checks.sentence("15 best: moves .. that come to the outcome",
                SearchBoundaryTest::bestComesToTheOutcome);
        Checks.sentence("15 best: PASS",
                SearchBoundaryTest::bestIsPass);
        Checks.sentence("15 best: OVER",
                SearchBoundaryTest::bestIsOver);
        Checks.sentence("15 best: IllegalStateException when the position has more than 7 empty squares",
                SearchBoundaryTest::bestWithSevenEmpty);
        Checks.sentence("16 finish: Both play their best moves (by best), or pass, until the game is over",
                SearchBoundaryTest::finishPlaysTheBest);
        Checks.sentence("16 finish: until the game is over",
                SearchBoundaryTest::finishUntilOver);
        Checks.sentence("16 finish: how many moves and passes were made",
                SearchBoundaryTest::finishAnswersHowMany);
        Checks.sentence("16 finish: They are put into the row",
                SearchBoundaryTest::finishPutsThemIntoTheRow);
        Checks.sentence("16 finish: IllegalStateException when the position has more than 7 empty squares",
                SearchBoundaryTest::finishWithSevenEmpty);
        Checks.sentence("16 finish: or there would be more than 64 in the row (and not with 63 or 64)",
                SearchBoundaryTest::finishUpTo64);
        Checks.sentence("16 finish: IllegalStateException when .. there would be more than 64 in the row",
                SearchBoundaryTest::finishBeyond64);
        Checks.end();
    }

    /** In each of the first rows the first square is empty, the second the other one's: that many empty squares. */
    private static TurnedDiscs withEmpty(int empty, int player) {
        long first = 0x0101010101010101L & (empty == 8 ? -1L : (1L << 8 * empty) - 1);
        return Checks.at(~(first | first << 1), first << 1, player);
    }

    /** One player's discs alone: the game is over. */
    private static TurnedDiscs overWithEmpty(int empty) {
        return Checks.at(empty == 64 ? 0 : -1L << empty, 0, 0);
    }

    /** Seven moves, and a pass before each of them. */
    private static TurnedDiscs longest() {
        return Checks.at(-3537858982276237680L, 7036874417768770L, 1);
    }

    private static PlainOthello plain(TurnedDiscs x) {
        PlainOthello y = new PlainOthello();
        y.set(x.discs(0), x.discs(1), x.player());
        return y;
    }

    /** Every position of the late games that has at most 7 empty squares, each with an empty row. */
    private static List<TurnedDiscs> latePositions() {
        List<TurnedDiscs> late = new ArrayList<>();
        for (LongGames game : LATE_GAMES) {
            TurnedDiscs x = game.played();
            while (Checks.emptySquares(x) <= 7) {
                late.add(Checks.at(x.discs(0), x.discs(1), x.player()));
                x.back();
            }
        }
        return late;
    }

    private static List<Integer> squaresOf(long bits) {
        List<Integer> squares = new ArrayList<>();
        for (int s = 0; s < 64; s++) {
            if ((bits >>> s & 1) == 1) {
                squares.add(s);
            }
        }
        return squares;
    }

    private static void dueCounts(String what, TurnedDiscs x, long... rows) {
        for (int n = 0; n < rows.length; n++) {
            Checks.due("count(" + n + ") " + what, x.count(n), rows[n]);
        }
    }

    private static void countOfRows() {
        TurnedDiscs x = new TurnedDiscs();
        String before = Checks.seen(x);
        dueCounts("at the beginning", x, 1, 4, 12, 56, 244);
        Checks.due("what count leaves", Checks.seen(x), before);
        x.play(19);
        dueCounts("behind 19", x, 1, 3, 14, 61, 349);
        // They are counted from the position on, and not made: a full row is nothing to them.
        for (LongGames game : new LongGames[] {LongGames.MOVE_LEFT, LongGames.PASS_LEFT, LongGames.MOVE_LEFT_OF_8}) {
            TurnedDiscs full = game.played();
            PlainOthello alike = plain(full);
            dueCounts("in a full row", full, 1, alike.count(1), alike.count(2), alike.count(3), alike.count(4));
        }
    }

    private static void countWithNone() {
        Checks.due("count(0) at the beginning", new TurnedDiscs().count(0), 1);
        Checks.due("count(0) when a pass is due", Checks.passDue().count(0), 1);
        Checks.due("count(0) on an empty board", Checks.at(0, 0, 0).count(0), 1);
        Checks.due("count(0) on a full board", Checks.at(-1L, 0, 0).count(0), 1);
        Checks.due("count(0) in a full row", LongGames.MOVE_LEFT.played().count(0), 1);
    }

    private static void countWhenOver() {
        dueCounts("on an empty board", Checks.at(0, 0, 0), 1, 1, 1, 1, 1);
        dueCounts("on a full board", Checks.at(-1L, 0, 1), 1, 1, 1, 1, 1);
        dueCounts("with one player's discs", Checks.at(5L, 0, 1), 1, 1, 1, 1, 1);
        dueCounts("in a full row", LongGames.OVER_AT_64.played(), 1, 1, 1, 1, 1);
        // One move to the end, and two ways to make it.
        dueCounts("with one move left", Checks.at(2L, 1L, 1), 1, 1, 1, 1, 1);
        dueCounts("with two last moves", Checks.at(Checks.bits(10, 12), Checks.bits(11), 1), 1, 2, 2, 2, 2);
    }

    private static void countWhereSomeGamesEnd() {
        // 13 turns all and ends the game; behind 19 there are 9 and 26, behind 21 there are 9 and 13.
        dueCounts("where one of three ends it", Checks.at(Checks.bits(3, 10), Checks.bits(11, 12), 0), 1, 3, 5, 15, 32);
    }

    private static void countOfPasses() {
        // A pass, then 0 or 63, a pass, the other corner, the end.
        long other = Checks.bits(1, 62);
        long own = ~(other | Checks.bits(0, 63));
        dueCounts("with a pass first", Checks.at(own, other, 1), 1, 1, 2, 2, 2);
        dueCounts("with a move first", Checks.at(own, other, 0), 1, 2, 2, 2, 2);
        dueCounts("with a pass first, then a choice",
                withEmpty(3, 1), 1, plain(withEmpty(3, 1)).count(1), plain(withEmpty(3, 1)).count(2),
                plain(withEmpty(3, 1)).count(3), plain(withEmpty(3, 1)).count(4));
    }

    private static void countRefusesN() {
        for (int wrong : new int[] {Integer.MIN_VALUE, -2, -1, 5, 6, 64, Integer.MAX_VALUE}) {
            Checks.refusedArgument("count(" + wrong + ")", TurnedDiscs::new, x -> x.count(wrong));
            Checks.refusedArgument("count(" + wrong + ") when over", () -> Checks.at(0, 0, 0), x -> x.count(wrong));
            Checks.refusedArgument("count(" + wrong + ") in a full row", LongGames.PASS_LEFT::played,
                    x -> x.count(wrong));
        }
        Checks.due("count(0)", new TurnedDiscs().count(0), 1);
        Checks.due("count(4)", new TurnedDiscs().count(4), 244);
    }

    private static void outcomeOfThePosition() {
        for (int empty = 0; empty <= 6; empty++) {
            for (int player = 0; player <= 1; player++) {
                TurnedDiscs x = withEmpty(empty, player);
                String before = Checks.seen(x);
                Checks.due("outcome() with " + empty + " empty for " + player, x.outcome(), plain(x).outcome());
                Checks.due("what it leaves", Checks.seen(x), before);
            }
        }
        Checks.due("outcome() of the longest way", longest().outcome(), -64);
        Checks.due("outcome() of a loss by one", Checks.at(~0x1FFFFFFFFL, 0x0FFFFFFFFL, 0).outcome(), -1);
        // A full row is nothing to the outcome: it is of the position.
        TurnedDiscs full = LongGames.MOVE_LEFT.played();
        Checks.due("outcome() in a full row", full.outcome(), plain(full).outcome());
    }

    private static void dueSevenAndEight(String call, Checks.Use use) {
        for (int player = 0; player <= 1; player++) {
            int who = player;
            for (int empty : new int[] {6, 7}) {
                Checks.due(call + " with " + empty + " empty",
                        Checks.answer(() -> use.on(withEmpty(empty, who))), "nothing");
            }
            Checks.refusedState(call + " with 8 empty", () -> withEmpty(8, who), use);
        }
        // Also when the game is over already.
        for (int empty : new int[] {0, 1, 6, 7}) {
            Checks.due(call + " with " + empty + " empty, over", Checks.answer(() -> use.on(overWithEmpty(empty))),
                    "nothing");
        }
        for (int empty : new int[] {8, 9, 63, 64}) {
            Checks.refusedState(call + " with " + empty + " empty, over", () -> overWithEmpty(empty), use);
        }
        Checks.refusedState(call + " at the beginning", TurnedDiscs::new, use);
        Checks.refusedState(call + " in a full row with 8 empty", LongGames.MOVE_LEFT_OF_8::played, use);
        Checks.refusedState(call + " in a full row with 8 empty, over", LongGames.OVER_WITH_8::played, use);
        // From 8 to 7 by a move, and back to 8.
        TurnedDiscs x = withEmpty(8, 0);
        x.play(0);
        Checks.due(call + " behind a move to 7 empty", Checks.answer(() -> use.on(x)), "nothing");
        Checks.refusedState(call + " taken back to 8 empty", () -> {
            TurnedDiscs y = withEmpty(8, 0);
            y.play(0);
            y.back();
            return y;
        }, use);
    }

    private static void outcomeWithSevenEmpty() {
        dueSevenAndEight("outcome()", x -> x.outcome());
        for (int player = 0; player <= 1; player++) {
            TurnedDiscs x = withEmpty(7, player);
            Checks.due("outcome() with 7 empty for " + player, x.outcome(), plain(x).outcome());
        }
    }

    private static int comesTo(TurnedDiscs x, int square) {
        TurnedDiscs behind = Checks.at(x.discs(0), x.discs(1), x.player());
        behind.play(square);
        return -behind.outcome();
    }

    private static void bestIsTheLeast() {
        int higherAsGood = 0;
        int lowerLessGood = 0;
        for (TurnedDiscs x : latePositions()) {
            if (x.moves() != 0) {
                int outcome = x.outcome();
                int least = -1;
                for (int square : squaresOf(x.moves())) {
                    boolean comes = comesTo(x, square) == outcome;
                    higherAsGood += comes && least >= 0 ? 1 : 0;
                    lowerLessGood += !comes && least < 0 ? 1 : 0;
                    least = comes && least < 0 ? square : least;
                }
                Checks.due("best() at " + Checks.seen(x), x.best(), least);
            }
        }
        Checks.due("a higher square that is as good was among them", higherAsGood > 0, true);
        Checks.due("a lower square that is less good was among them", lowerLessGood > 0, true);
        // Both corners win all: 0 is the less.
        long other = Checks.bits(1, 62);
        Checks.due("best() of 0 and 63", Checks.at(~(other | Checks.bits(0, 63)), other, 0).best(), 0);
        Checks.due("best() of 63 alone", Checks.at(~Checks.bits(62, 63), Checks.bits(62), 0).best(), 63);
    }

    private static void bestComesToTheOutcome() {
        for (TurnedDiscs x : latePositions()) {
            int best = x.best();
            if (best < 64) {
                Checks.due("what best() comes to at " + Checks.seen(x), comesTo(x, best), x.outcome());
            }
        }
        // All three moves lose everything, and the least of them is the best all the same.
        TurnedDiscs lost = Checks.at(70437463670784L, -88167098109953L, 0);
        Checks.due("moves() of what is lost", Long.bitCount(lost.moves()), 3);
        Checks.due("outcome() of what is lost", lost.outcome(), -64);
        Checks.due("best() of what is lost", lost.best(), Long.numberOfTrailingZeros(lost.moves()));
        int length = plain(lost).finish();
        Checks.due("finish() of what is lost", lost.finish(), length);
        Checks.due("difference() of what is lost", lost.difference(), -64);
    }

    private static void bestIsPass() {
        int passes = 0;
        for (TurnedDiscs x : latePositions()) {
            if (x.moves() == 0 && !x.over()) {
                Checks.due("best() when a pass is due, at " + Checks.seen(x), x.best(), TurnedDiscs.PASS);
                passes++;
            }
        }
        Checks.due("passes were among them", passes > 0, true);
        for (int empty : new int[] {1, 6, 7}) {
            // The one who has no disc but those in the second column can only pass, until one is turned.
            Checks.due("best() of player 1 with " + empty + " empty", withEmpty(empty, 1).best(), TurnedDiscs.PASS);
        }
        Checks.due("best() in a full row", LongGames.PASS_LEFT.played().best(), TurnedDiscs.PASS);
    }

    private static void bestIsOver() {
        for (int empty : new int[] {0, 1, 6, 7}) {
            Checks.due("best() when over with " + empty + " empty", overWithEmpty(empty).best(), TurnedDiscs.OVER);
        }
        Checks.due("best() of one without discs", Checks.at(0, Long.MAX_VALUE, 0).best(), TurnedDiscs.OVER);
        Checks.due("best() in a full row", LongGames.OVER_AT_64.played().best(), TurnedDiscs.OVER);
        TurnedDiscs x = withEmpty(7, 0);
        x.finish();
        Checks.due("best() after finish", x.best(), TurnedDiscs.OVER);
        x.back();
        Checks.due("best() one before", x.best() != TurnedDiscs.OVER, true);
    }

    private static void bestWithSevenEmpty() {
        dueSevenAndEight("best()", x -> x.best());
        for (int player = 0; player <= 1; player++) {
            TurnedDiscs x = withEmpty(7, player);
            Checks.due("best() with 7 empty for " + player, x.best(), plain(x).best());
        }
    }

    private static void finishPlaysTheBest() {
        for (TurnedDiscs x : latePositions()) {
            TurnedDiscs slow = Checks.at(x.discs(0), x.discs(1), x.player());
            String from = Checks.seen(x);
            int length = 0;
            while (slow.best() != TurnedDiscs.OVER) {
                slow.play(slow.best());
                length++;
            }
            Checks.due("finish() at " + from, x.finish(), length);
            Checks.due("what it leads to", Checks.seen(x), Checks.seen(slow));
            for (int i = 0; i < length; i++) {
                Checks.due("back() from " + (length - i), x.back(), slow.back());
            }
            Checks.due("what is before it", Checks.seen(x), from);
        }
    }

    private static void finishUntilOver() {
        for (int empty = 0; empty <= 7; empty++) {
            TurnedDiscs x = withEmpty(empty, 0);
            int outcome = x.outcome();
            x.finish();
            Checks.due("over() after it", x.over(), true);
            Checks.due("difference() after it", x.difference(), outcome);
            Checks.due("finish() once more", x.finish(), 0);
        }
    }

    private static void finishAnswersHowMany() {
        Checks.due("finish() on a full board", Checks.at(-1L, 0, 0).finish(), 0);
        Checks.due("finish() of a game that is over", overWithEmpty(7).finish(), 0);
        Checks.due("finish() of one move", withEmpty(1, 0).finish(), 1);
        Checks.due("finish() of a pass and a move", withEmpty(1, 1).finish(), 2);
        TurnedDiscs longest = longest();
        Checks.due("finish() of seven moves, a pass before each", longest.finish(), 14);
        Checks.due("made() then", longest.made(), 14);
        Checks.due("empty squares then", Checks.emptySquares(longest), 0);
    }

    private static void finishPutsThemIntoTheRow() {
        long other = Checks.bits(1, 62);
        TurnedDiscs x = Checks.at(~(other | Checks.bits(0, 63)), other, 1);
        x.play(64);
        Checks.due("finish() behind a pass", x.finish(), 3);
        Checks.due("made() with what was there", x.made(), 4);
        int[] row = {63, 64, 0, 64};
        for (int square : row) {
            Checks.due("back()", x.back(), square);
        }
        Checks.noElement("back() with none left", () -> x.back());
        Checks.due("discs(1) at the end", x.discs(1), other);
        TurnedDiscs none = Checks.at(-1L, 0, 0);
        none.finish();
        Checks.due("made() when there was nothing to make", none.made(), 0);
    }

    private static void finishWithSevenEmpty() {
        dueSevenAndEight("finish()", x -> x.finish());
    }

    private static void dueFinish(String what, LongGames game, int length) {
        TurnedDiscs x = game.played();
        Checks.due("made() before finish() " + what, x.made(), game.length());
        Checks.due("finish() " + what, x.finish(), length);
        Checks.due("made() after finish() " + what, x.made(), game.length() + length);
        Checks.due("over() after finish() " + what, x.over(), true);
        for (int i = 0; i < length; i++) {
            x.back();
        }
        game.dueWayBack(x, game.length());
    }

    private static void finishUpTo64() {
        dueFinish("up to 63", LongGames.FINISH_TO_63, 9);
        dueFinish("up to 64", LongGames.FINISH_TO_64, 7);
        dueFinish("up to 64 with passes", LongGames.FINISH_TO_64_PASSING, 11);
        dueFinish("of nothing at 64", LongGames.OVER_AT_64, 0);
    }

    private static void finishBeyond64() {
        LongGames[] beyond = {
            LongGames.FINISH_TO_65, LongGames.FINISH_TO_65_PASSING, LongGames.MOVE_LEFT, LongGames.PASS_LEFT
        };
        int[] lengths = {7, 10, 1, 2};
        for (int i = 0; i < beyond.length; i++) {
            TurnedDiscs now = beyond[i].played();
            TurnedDiscs alike = Checks.at(now.discs(0), now.discs(1), now.player());
            Checks.due("finish() of the same with an empty row", alike.finish(), lengths[i]);
            Checks.refusedState("finish() up to " + (beyond[i].length() + lengths[i]), beyond[i]::played,
                    x -> x.finish());
        }
        // From 63 on it is a pass, which would fit, and then a move.
        Checks.refusedState("finish() up to 65, from 63", () -> LongGames.MOVE_LEFT.played(63), x -> x.finish());
    }
}
