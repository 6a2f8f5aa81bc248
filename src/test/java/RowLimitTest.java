/** The row of at most 64, which takes games with many passes from thin positions. */
public final class RowLimitTest {
    public static void main(String[] args) {
        aMoveTooMany();
        aPassTooMany();
        finishThatFits();
        finishTooLong();
        fullRowOfAGameThatIsOver();
        Checks.end();
    }

    private static TurnedDiscs played(LongGames game) {
        TurnedDiscs x = game.played();
        Checks.due("made() of the game", x.made(), game.length());
        return x;
    }

    private static void aMoveTooMany() {
        TurnedDiscs x = played(LongGames.MOVE_LEFT);
        String before = Checks.seen(x);
        long moves = x.moves();
        Checks.due("there is a move", moves != 0, true);
        for (int s = -1; s <= 65; s++) {
            int square = s;
            boolean move = s >= 0 && s < 64 && (moves >>> s & 1) != 0;
            if (move) {
                Checks.state("play(" + s + ") in a full row", () -> x.play(square));
            } else {
                Checks.argument("play(" + s + ") in a full row", () -> x.play(square));
            }
        }
        Checks.state("finish() in a full row", () -> x.finish());
        Checks.due("a full row stays as it is", Checks.seen(x), before);
        Checks.due("count(1) looks past the full row", x.count(1), Long.bitCount(moves));
        Checks.due("best() looks past the full row", (moves >>> x.best() & 1) != 0, true);
        LongGames.MOVE_LEFT.dueWayBack(x, 64);
    }

    private static void aPassTooMany() {
        TurnedDiscs x = played(LongGames.PASS_LEFT);
        String before = Checks.seen(x);
        Checks.due("no move", x.moves(), 0);
        Checks.due("not over", x.over(), false);
        Checks.due("best() is the pass", x.best(), 64);
        Checks.state("play(64) in a full row", () -> x.play(64));
        Checks.argument("play(0) in a full row", () -> x.play(0));
        Checks.state("finish() in a full row", () -> x.finish());
        Checks.due("a full row stays as it is", Checks.seen(x), before);
        Checks.due("back()", x.back(), 39);
        x.play(39);
        LongGames.PASS_LEFT.dueWayBack(x, 64);
    }

    private static void finishThatFits() {
        TurnedDiscs x = played(LongGames.FINISH_TO_64);
        int outcome = x.outcome();
        int sign = x.player() == 0 ? 1 : -1;
        Checks.due("finish() up to 64", x.finish(), 7);
        Checks.due("made() after it", x.made(), 64);
        Checks.due("over() after it", x.over(), true);
        Checks.due("difference() after it", x.difference(), sign * outcome);
        for (int i = 0; i < 7; i++) {
            x.back();
        }
        LongGames.FINISH_TO_64.dueWayBack(x, 57);
    }

    private static void finishTooLong() {
        TurnedDiscs x = played(LongGames.FINISH_TO_65);
        TurnedDiscs alike = new TurnedDiscs();
        alike.set(x.discs(0), x.discs(1), x.player());
        Checks.due("finish() with an empty row", alike.finish(), 7);
        String before = Checks.seen(x);
        Checks.state("finish() up to 65", () -> x.finish());
        Checks.due("what it leaves", Checks.seen(x), before);
        LongGames.FINISH_TO_65.dueWayBack(x, 58);
    }

    private static void fullRowOfAGameThatIsOver() {
        TurnedDiscs x = played(LongGames.FINISH_TO_64);
        x.finish();
        Checks.due("finish() of a game that is over", x.finish(), 0);
        Checks.due("made()", x.made(), 64);
        Checks.argument("play(64) of a game that is over", () -> x.play(64));
        x.begin();
        Checks.due("made() after begin", x.made(), 0);
        Checks.due("play(19) after begin", x.play(19), 1);
    }
}
