/** "A call that throws changes nothing": every call that can throw, in every kind of state. */
public final class RefusedCallsTest {
    private static final int[] WRONG_PLAYERS = {-1, 2};

    public static void main(String[] args) {
        Checks.sentence("Terms: A call that throws changes nothing", RefusedCallsTest::allStates);
        Checks.sentence("Terms: A call that throws changes nothing (the game goes on alike)",
                RefusedCallsTest::goesOnAlike);
        Checks.end();
    }

    private static void allStates() {
        allCalls("at the beginning", TurnedDiscs::new);
        allCalls("behind a move", Checks::afterOneMove);
        allCalls("behind two moves and one taken back", RefusedCallsTest::behindOneTakenBack);
        allCalls("with player 1 to move", () -> Checks.at(Checks.bits(10), Checks.bits(11), 1));
        allCalls("when a pass is due", Checks::passDue);
        allCalls("behind a pass", Checks::afterAPass);
        allCalls("when the game is over", RefusedCallsTest::behindTheLastMove);
        allCalls("on an empty board", () -> Checks.at(0, 0, 1));
        allCalls("on a full board", () -> Checks.at(0x0FL, ~0x0FL, 1));
        allCalls("with 63 in the row", () -> LongGames.MOVE_LEFT.played(63));
        allCalls("with 64 in the row and a move", LongGames.MOVE_LEFT::played);
        allCalls("with 64 in the row and a pass", LongGames.PASS_LEFT::played);
        allCalls("with 64 in the row and over", LongGames.OVER_AT_64::played);
        allCalls("with 64 in the row and 8 empty", LongGames.MOVE_LEFT_OF_8::played);
        allCalls("with 64 in the row and 8 empty, over", LongGames.OVER_WITH_8::played);
        allCalls("with a finish that is too long", LongGames.FINISH_TO_65::played);
        allCalls("with a finish that passes and is too long", LongGames.FINISH_TO_65_PASSING::played);
    }

    private static TurnedDiscs behindOneTakenBack() {
        TurnedDiscs x = Checks.afterOneMove();
        x.play(18);
        x.play(17);
        x.back();
        return x;
    }

    private static TurnedDiscs behindTheLastMove() {
        TurnedDiscs x = Checks.afterAPass();
        x.play(2);
        return x;
    }

    private static void allCalls(String when, Checks.Maker maker) {
        wrongArguments(when, maker);
        refusedPlays(when, maker);
        TurnedDiscs now = maker.make();
        if (now.made() == 0) {
            Checks.refused("back() " + when, Checks.NO_ELEMENT, maker, x -> x.back());
        }
        if (Checks.emptySquares(now) > 7) {
            Checks.refusedState("outcome() " + when, maker, x -> x.outcome());
            Checks.refusedState("best() " + when, maker, x -> x.best());
            Checks.refusedState("finish() " + when, maker, x -> x.finish());
        } else if (now.made() + Checks.at(now.discs(0), now.discs(1), now.player()).finish() > 64) {
            Checks.refusedState("finish() too long " + when, maker, x -> x.finish());
        }
    }

    private static void wrongArguments(String when, Checks.Maker maker) {
        Checks.refusedArgument("set of a square in both " + when, maker, x -> x.set(6L, 3L, 0));
        for (int wrong : WRONG_PLAYERS) {
            Checks.refusedArgument("set for " + wrong + " " + when, maker, x -> x.set(1L, 2L, wrong));
            Checks.refusedArgument("discs(" + wrong + ") " + when, maker, x -> x.discs(wrong));
            Checks.refusedArgument("border(" + wrong + ") " + when, maker, x -> x.border(wrong));
            Checks.refusedArgument("safe(" + wrong + ") " + when, maker, x -> x.safe(wrong));
        }
        for (int wrong : new int[] {-1, 64}) {
            Checks.refusedArgument("turns(" + wrong + ") " + when, maker, x -> x.turns(wrong));
        }
        for (int wrong : new int[] {-1, 5}) {
            Checks.refusedArgument("count(" + wrong + ") " + when, maker, x -> x.count(wrong));
        }
    }

    private static void refusedPlays(String when, Checks.Maker maker) {
        TurnedDiscs now = maker.make();
        for (int s = -1; s <= 65; s++) {
            int square = s;
            boolean move = s >= 0 && s < 64 && (now.moves() >>> s & 1) == 1;
            boolean pass = s == 64 && now.moves() == 0 && !now.over();
            if (!move && !pass) {
                Checks.refusedArgument("play(" + s + ") " + when, maker, x -> x.play(square));
            } else if (now.made() == 64) {
                Checks.refusedState("play(" + s + ") " + when, maker, x -> x.play(square));
            }
        }
    }

    /** Refused calls between all moves and passes of a game: it goes on as if they had not been. */
    private static void goesOnAlike() {
        TurnedDiscs x = LongGames.FINISH_TO_64.played(0);
        TurnedDiscs twin = LongGames.FINISH_TO_64.played(0);
        for (int i = 0; i < LongGames.FINISH_TO_64.length(); i++) {
            Checks.argument("play(65)", () -> x.play(65));
            Checks.argument("turns(64)", () -> x.turns(64));
            Checks.due("set", Checks.answer(() -> x.set(1L, 1L, 0)), Checks.ARGUMENT);
            int square = LongGames.FINISH_TO_64.square(i);
            Checks.due("play(" + square + ")", x.play(square), twin.play(square));
        }
        Checks.due("finish()", x.finish(), twin.finish());
        Checks.due("what it leads to", Checks.seen(x), Checks.seen(twin));
    }
}
