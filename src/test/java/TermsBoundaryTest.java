import java.util.ArrayList;
import java.util.List;

/** The boundary cases that the document's "Terms" name: a method for each sentence. */
public final class TermsBoundaryTest {
    private static final int[] STEPS = {-9, -8, -7, -1, 1, 7, 8, 9};

    // From 27 the eight lines; near are the first squares of them, far the second.
    private static final int[] NEAR = {18, 19, 20, 26, 28, 34, 35, 36};
    private static final int[] FAR = {9, 11, 13, 25, 29, 41, 43, 45};

    public static void main(String[] args) {
        Checks.sentence("What it is: An object is used for at most 512 calls after it has been made",
                TermsBoundaryTest::atMost512Calls);
        Checks.sentence("Terms: SQUARES are 0 .. 63 .. in a long it is bit 8 * r + c",
                TermsBoundaryTest::squaresAreBits);
        Checks.sentence("Terms: a square has a disc of one of them, or is EMPTY",
                TermsBoundaryTest::aDiscOfOneOrEmpty);
        Checks.sentence("Terms: THE BEGINNING: player 0 has the squares 28 and 35, player 1 27 and 36, player 0"
                        + " is to move",
                TermsBoundaryTest::theBeginning);
        Checks.sentence("Terms: A LINE from a square goes on and on in one of the eight directions .. to the edge",
                TermsBoundaryTest::lineGoesOnToTheEdge);
        Checks.sentence("Terms: A LINE .. to the edge (and not round it)",
                TermsBoundaryTest::lineDoesNotGoRoundTheEdge);
        Checks.sentence("Terms: TURNS, in each line from it",
                TermsBoundaryTest::inEachLine);
        Checks.sentence("Terms: all discs of the other one that come first there",
                TermsBoundaryTest::firstInTheLine);
        Checks.sentence("Terms: one after the other without a gap",
                TermsBoundaryTest::withoutAGap);
        Checks.sentence("Terms: if there is at least one",
                TermsBoundaryTest::atLeastOne);
        Checks.sentence("Terms: and a disc of the player's own comes right behind them",
                TermsBoundaryTest::ownDiscRightBehind);
        Checks.sentence("Terms: To put a disc where none is turned is no move",
                TermsBoundaryTest::whereNoneIsTurned);
        Checks.sentence("Terms: A player to move who has a MOVE makes one: the disc is put, what it turns is the"
                        + " player's own from then on, and the other one is to move",
                TermsBoundaryTest::whoHasAMoveMakesOne);
        Checks.sentence("Terms: A player who has none PASSES, if the other one has a move: the other one is to move",
                TermsBoundaryTest::whoHasNonePasses);
        Checks.sentence("Terms: PASSES, if the other one has a move (and not if it has none)",
                TermsBoundaryTest::noPassIfTheOtherHasNone);
        Checks.sentence("Terms: When neither has a move, the game is OVER",
                TermsBoundaryTest::neitherHasAMove);
        Checks.sentence("Terms: THE OUTCOME .. is, when the game is over, the number of that player's discs less"
                        + " that of the other one's",
                TermsBoundaryTest::outcomeWhenOver);
        Checks.sentence("Terms: otherwise the greatest that the player's moves (or the pass) come to, what one"
                        + " comes to being 0 less the outcome of the position behind it",
                TermsBoundaryTest::outcomeIsTheGreatest);
        Checks.sentence("Terms: There is a ROW of the moves and passes that were made since the position was set up",
                TermsBoundaryTest::rowSinceSetUp);
        Checks.sentence("Terms: There is a ROW .. at most 64",
                TermsBoundaryTest::rowAtMost64);
        Checks.sentence("Terms: of several exceptions the one that stands first in the throws clause is thrown",
                TermsBoundaryTest::firstOfTheThrowsClause);
        Checks.sentence("The constants: PASS = 64, OVER = 65: Answered by best when the player to move must pass,"
                        + " and when the game is over",
                TermsBoundaryTest::constants);
        Checks.end();
    }

    private static void atMost512Calls() {
        TurnedDiscs x = new TurnedDiscs();
        for (int i = 0; i < 255; i++) {
            Checks.due("play(19), call " + (2 * i + 1), x.play(19), 1);
            Checks.due("back(), call " + (2 * i + 2), x.back(), 19);
        }
        Checks.due("play(44), call 511", x.play(44), 1);
        Checks.due("discs(0), call 512", x.discs(0), Checks.bits(28, 35, 36, 44));
    }

    private static void squaresAreBits() {
        for (int s = 0; s < 64; s++) {
            Checks.due("discs(0) with a disc on " + s, Checks.at(1L << s, 0, 1).discs(0), 1L << s);
            Checks.due("discs(1) with a disc on " + s, Checks.at(0, 1L << s, 0).discs(1), 1L << s);
        }
        TurnedDiscs first = Checks.at(Checks.bits(2), Checks.bits(1), 0);
        Checks.due("moves() onto square 0", first.moves(), 1L);
        first.play(0);
        Checks.due("discs(0) with square 0", first.discs(0), 7L);
        TurnedDiscs last = Checks.at(Checks.bits(61), Checks.bits(62), 0);
        Checks.due("moves() onto square 63", last.moves(), Long.MIN_VALUE);
        last.play(63);
        Checks.due("discs(0) with square 63", last.discs(0), 7L << 61);
    }

    private static void aDiscOfOneOrEmpty() {
        TurnedDiscs none = Checks.at(0, 0, 0);
        Checks.due("discs of an empty board", none.discs(0) | none.discs(1), 0);
        TurnedDiscs all = Checks.at(0x5555555555555555L, 0xAAAAAAAAAAAAAAAAL, 0);
        Checks.due("discs of a full board", all.discs(0) | all.discs(1), -1L);
        TurnedDiscs x = LongGames.MOVE_LEFT.played(0);
        for (int i = 0; i < 64; i++) {
            int before = Checks.emptySquares(x);
            int square = LongGames.MOVE_LEFT.square(i);
            x.play(square);
            Checks.due("discs of both after " + square, x.discs(0) & x.discs(1), 0);
            Checks.due("empty squares after " + square, Checks.emptySquares(x), square == 64 ? before : before - 1);
        }
    }

    private static void theBeginning() {
        TurnedDiscs x = new TurnedDiscs();
        Checks.due("discs(0)", x.discs(0), Checks.bits(28, 35));
        Checks.due("discs(1)", x.discs(1), Checks.bits(27, 36));
        Checks.due("player()", x.player(), 0);
    }

    private static void lineGoesOnToTheEdge() {
        for (int s = 0; s < 64; s++) {
            for (int[] direction : PlainOthello.DIRECTIONS) {
                List<Integer> line = PlainOthello.line(s, direction);
                for (int run = 1; run < line.size(); run++) {
                    long between = bitsOf(line, 0, run);
                    long end = 1L << line.get(run);
                    String what = "turns(" + s + ") over " + run + " up to " + line.get(run);
                    Checks.due(what, Checks.at(end, between, 0).turns(s), between);
                    Checks.due(what + " for player 1", Checks.at(between, end, 1).turns(s), between);
                    Checks.due("moves() with " + what, Checks.at(end, between, 0).moves() >>> s & 1, 1);
                }
            }
        }
    }

    /** Squares whose numbers go on by the same step, but not in a line: there the next row begins. */
    private static void lineDoesNotGoRoundTheEdge() {
        for (int s = 0; s < 64; s++) {
            for (int step : STEPS) {
                for (int run = 1; run <= 6; run++) {
                    int end = s + (run + 1) * step;
                    if (end >= 0 && end < 64 && !sameLine(s, step, run + 1)) {
                        long between = 0;
                        for (int i = 1; i <= run; i++) {
                            between |= 1L << (s + i * step);
                        }
                        TurnedDiscs x = Checks.at(1L << end, between, 0);
                        String what = "(" + s + ") by " + step + " over " + run + " round the edge";
                        Checks.due("turns" + what, x.turns(s), 0);
                        Checks.due("moves" + what, x.moves() >>> s & 1, 0);
                    }
                }
            }
        }
        // The other one's discs up to the edge, nothing but them: no disc of the player's own can come.
        for (int s = 0; s < 64; s++) {
            for (int[] direction : PlainOthello.DIRECTIONS) {
                List<Integer> line = PlainOthello.line(s, direction);
                long others = bitsOf(line, 0, line.size());
                long offLine = ~(lineSquares(s) | 1L << s);
                Checks.due("turns(" + s + ") with " + line.size() + " up to the edge",
                        Checks.at(offLine, others, 0).turns(s), 0);
            }
        }
    }

    private static boolean sameLine(int s, int step, int steps) {
        for (int[] direction : PlainOthello.DIRECTIONS) {
            if (8 * direction[0] + direction[1] == step) {
                return PlainOthello.line(s, direction).size() >= steps;
            }
        }
        return false;
    }

    private static long lineSquares(int s) {
        long squares = 0;
        for (int[] direction : PlainOthello.DIRECTIONS) {
            List<Integer> line = PlainOthello.line(s, direction);
            squares |= bitsOf(line, 0, line.size());
        }
        return squares;
    }

    private static long bitsOf(List<Integer> squares, int from, int to) {
        long bits = 0;
        for (int s : squares.subList(from, to)) {
            bits |= 1L << s;
        }
        return bits;
    }

    private static void inEachLine() {
        // Each choice of the eight lines has its own disc behind the other one's.
        for (int closed = 0; closed < 256; closed++) {
            long far = 0;
            long due = 0;
            for (int i = 0; i < 8; i++) {
                if ((closed >> i & 1) == 1) {
                    far |= 1L << FAR[i];
                    due |= 1L << NEAR[i];
                }
            }
            TurnedDiscs x = Checks.at(far, Checks.bits(NEAR), 0);
            Checks.due("turns(27) with the lines " + closed, x.turns(27), due);
            if (closed != 0) {
                Checks.due("play(27) with the lines " + closed, x.play(27), Integer.bitCount(closed));
                Checks.due("discs(1) after it", x.discs(1), Checks.bits(NEAR) & ~due);
            }
        }
    }

    private static void firstInTheLine() {
        // What lies behind the first of the player's own discs stays.
        Checks.due("turns(0) up to the first own disc",
                Checks.at(Checks.bits(2, 5), Checks.bits(1, 3, 4), 0).turns(0), Checks.bits(1));
        Checks.due("turns(0) over all before it",
                Checks.at(Checks.bits(5, 7), Checks.bits(1, 2, 3, 4, 6), 0).turns(0), Checks.bits(1, 2, 3, 4));
        Checks.due("turns(0) where an own disc comes first",
                Checks.at(Checks.bits(1, 3), Checks.bits(2), 0).turns(0), 0);
        Checks.due("turns(0) where an empty square comes first",
                Checks.at(Checks.bits(3), Checks.bits(2), 0).turns(0), 0);
    }

    private static void withoutAGap() {
        int[][] lines = {{0, 1}, {63, -1}, {7, 8}, {56, -8}, {0, 9}, {63, -9}, {7, 7}, {56, -7}};
        for (int[] line : lines) {
            long six = 0;
            for (int i = 1; i <= 6; i++) {
                six |= 1L << (line[0] + i * line[1]);
            }
            long end = 1L << (line[0] + 7 * line[1]);
            Checks.due("turns(" + line[0] + ") over six", Checks.at(end, six, 0).turns(line[0]), six);
            for (int gap = 1; gap <= 6; gap++) {
                long others = six & ~(1L << (line[0] + gap * line[1]));
                Checks.due("turns(" + line[0] + ") with a gap at " + gap + " by " + line[1],
                        Checks.at(end, others, 0).turns(line[0]), 0);
            }
        }
    }

    private static void atLeastOne() {
        for (int i = 0; i < 8; i++) {
            TurnedDiscs none = Checks.at(Checks.bits(NEAR[i], FAR[i]), 0, 0);
            Checks.due("turns(27) with none before " + NEAR[i], none.turns(27), 0);
            Checks.due("moves() with none before " + NEAR[i], none.moves(), 0);
            TurnedDiscs one = Checks.at(Checks.bits(FAR[i]), Checks.bits(NEAR[i]), 0);
            Checks.due("turns(27) with one, " + NEAR[i], one.turns(27), Checks.bits(NEAR[i]));
            Checks.due("moves() with one, " + NEAR[i], one.moves(), Checks.bits(27));
        }
    }

    private static void ownDiscRightBehind() {
        Checks.due("turns(0) with an empty square behind", Checks.at(0, Checks.bits(1, 2), 0).turns(0), 0);
        Checks.due("turns(0) with an own disc one further on",
                Checks.at(Checks.bits(4), Checks.bits(1, 2), 0).turns(0), 0);
        Checks.due("turns(0) with an own disc right behind",
                Checks.at(Checks.bits(3), Checks.bits(1, 2), 0).turns(0), Checks.bits(1, 2));
        Checks.due("turns(0) with the edge behind", Checks.at(0, 0xFEL, 0).turns(0), 0);
        Checks.due("turns(0) with an own disc on the last square",
                Checks.at(Checks.bits(7), 0x7EL, 0).turns(0), 0x7EL);
        Checks.due("turns(0) where the disc behind is of the one who waits",
                Checks.at(Checks.bits(3), Checks.bits(1, 2), 1).turns(0), 0);
    }

    private static void whereNoneIsTurned() {
        long moves = Checks.bits(19, 26, 37, 44);
        TurnedDiscs x = new TurnedDiscs();
        Checks.due("moves()", x.moves(), moves);
        for (int s = 0; s < 64; s++) {
            int square = s;
            boolean move = (moves >>> s & 1) == 1;
            Checks.due("turns(" + s + ") turns some", x.turns(s) != 0, move);
            if (move) {
                Checks.due("play(" + s + ")", new TurnedDiscs().play(s), 1);
            } else {
                Checks.refusedArgument("play(" + s + ")", TurnedDiscs::new, y -> y.play(square));
            }
        }
    }

    private static void whoHasAMoveMakesOne() {
        TurnedDiscs x = new TurnedDiscs();
        x.play(19);
        Checks.due("discs(0) with the disc and what it turned", x.discs(0), Checks.bits(19, 27, 28, 35));
        Checks.due("discs(1) without it", x.discs(1), Checks.bits(36));
        Checks.due("player() after it", x.player(), 1);
        // The other one is to move even where there is nothing but a pass to make, or nothing at all.
        TurnedDiscs pass = Checks.at(Checks.bits(2, 58, 59, 60, 61, 62, 63), Checks.bits(1, 57), 0);
        pass.play(0);
        Checks.due("player() who must pass", pass.player(), 1);
        Checks.due("moves() of the one who must pass", pass.moves(), 0);
        Checks.due("over() before the pass", pass.over(), false);
        TurnedDiscs end = Checks.at(Checks.bits(2), Checks.bits(1), 0);
        end.play(0);
        Checks.due("player() after the last move", end.player(), 1);
        Checks.due("over() after the last move", end.over(), true);
        // One move is enough: a pass is refused.
        Checks.refusedArgument("play(64) with one move", () -> Checks.at(Checks.bits(2), Checks.bits(1), 0),
                y -> y.play(64));
    }

    private static void whoHasNonePasses() {
        for (int player = 0; player <= 1; player++) {
            TurnedDiscs x = player == 0 ? Checks.passDue() : Checks.at(1L, 2L, 1);
            long discs0 = x.discs(0);
            long discs1 = x.discs(1);
            Checks.due("moves() of the one who passes", x.moves(), 0);
            Checks.due("over() before the pass", x.over(), false);
            Checks.due("play(64)", x.play(64), 0);
            Checks.due("player() after it", x.player(), 1 - player);
            Checks.due("moves() of the other one", x.moves(), Checks.bits(2));
            Checks.due("discs(0) after it", x.discs(0), discs0);
            Checks.due("discs(1) after it", x.discs(1), discs1);
        }
        Checks.refusedArgument("play(64) after a pass", Checks::afterAPass, y -> y.play(64));
    }

    private static void noPassIfTheOtherHasNone() {
        Checks.refusedArgument("play(64) on an empty board", () -> Checks.at(0, 0, 0), x -> x.play(64));
        Checks.refusedArgument("play(64) on a full board", () -> Checks.at(1L, -2L, 1), x -> x.play(64));
        Checks.refusedArgument("play(64) with one player's discs", () -> Checks.at(5L, 0, 1), x -> x.play(64));
        Checks.refusedArgument("play(64) with discs far apart", () -> Checks.at(1L, 1L << 63, 0), x -> x.play(64));
        Checks.refusedArgument("play(64) after the last move", () -> {
            TurnedDiscs x = Checks.at(Checks.bits(2), Checks.bits(1), 0);
            x.play(0);
            return x;
        }, x -> x.play(64));
    }

    private static void neitherHasAMove() {
        // 0 1 in the corner: only player 1's 0 can go over 1, to 2.
        Checks.due("over() when only the other one has a move", Checks.passDue().over(), false);
        Checks.due("over() when only the player has a move", Checks.at(2L, 1L, 1).over(), false);
        Checks.due("over() when both have", Checks.at(Checks.bits(10), Checks.bits(11), 0).over(), false);
        // Between two edges, 0 and 7, all is taken: nobody can go over anything.
        Checks.due("over() when neither has", Checks.at(0x0FL, 0xF0L, 0).over(), true);
        Checks.due("over() when neither has, for player 1", Checks.at(0x0FL, 0xF0L, 1).over(), true);
        Checks.due("over() on an empty board", Checks.at(0, 0, 1).over(), true);
        Checks.due("over() on a full board", Checks.at(0x0FL, ~0x0FL, 1).over(), true);
        Checks.due("over() with one player's discs", Checks.at(0, Checks.bits(27, 28), 1).over(), true);
        TurnedDiscs x = Checks.at(Checks.bits(2), Checks.bits(1), 0);
        Checks.due("over() before the last move", x.over(), false);
        x.play(0);
        Checks.due("over() after the last move", x.over(), true);
        x.back();
        Checks.due("over() after back", x.over(), false);
    }

    private static void outcomeWhenOver() {
        Checks.due("outcome() of all", Checks.at(-1L, 0, 0).outcome(), 64);
        Checks.due("outcome() of none", Checks.at(-1L, 0, 1).outcome(), -64);
        Checks.due("outcome() of half", Checks.at(0xFFFFFFFFL, ~0xFFFFFFFFL, 0).outcome(), 0);
        Checks.due("outcome() of half and one", Checks.at(0x1FFFFFFFFL, ~0x1FFFFFFFFL, 0).outcome(), 2);
        Checks.due("outcome() of it for player 1", Checks.at(0x1FFFFFFFFL, ~0x1FFFFFFFFL, 1).outcome(), -2);
        // What is empty is nobody's, also at the end.
        Checks.due("outcome() with 1 empty square", Checks.at(-2L, 0, 0).outcome(), 63);
        Checks.due("outcome() with 7 empty squares", Checks.at(0, ~0x7FL, 0).outcome(), -57);
    }

    private static void outcomeIsTheGreatest() {
        for (LongGames game : games()) {
            TurnedDiscs x = game.played();
            for (int i = 0; i < 6 && Checks.emptySquares(x) <= 7 && !x.over(); i++) {
                Checks.due("outcome() at " + Checks.seen(x), x.outcome(), greatest(x));
                x.back();
            }
        }
        // The same by hand: a single empty square, which turns one disc; then a pass before it.
        long one = Checks.bits(1);
        long empty = Checks.bits(0);
        Checks.due("outcome() with one move to make", Checks.at(~(one | empty), one, 0).outcome(), 64);
        Checks.due("outcome() behind a pass", Checks.at(~(one | empty), one, 1).outcome(), -64);
    }

    private static List<LongGames> games() {
        return List.of(LongGames.FINISH_TO_63, LongGames.FINISH_TO_64, LongGames.FINISH_TO_64_PASSING,
                LongGames.FINISH_TO_65, LongGames.FINISH_TO_65_PASSING);
    }

    private static int greatest(TurnedDiscs x) {
        int greatest = Integer.MIN_VALUE;
        for (int square : choices(x)) {
            TurnedDiscs behind = Checks.at(x.discs(0), x.discs(1), x.player());
            behind.play(square);
            greatest = Math.max(greatest, -behind.outcome());
        }
        return greatest;
    }

    private static List<Integer> choices(TurnedDiscs x) {
        List<Integer> choices = new ArrayList<>();
        long moves = x.moves();
        for (int s = 0; s < 64; s++) {
            if ((moves >>> s & 1) == 1) {
                choices.add(s);
            }
        }
        return choices.isEmpty() ? List.of(TurnedDiscs.PASS) : choices;
    }

    private static void rowSinceSetUp() {
        TurnedDiscs x = new TurnedDiscs();
        x.play(19);
        x.play(18);
        x.set(2L, 1L, 0);
        Checks.due("made() after set", x.made(), 0);
        x.play(64);
        Checks.due("made() with a pass", x.made(), 1);
        x.play(2);
        Checks.due("made() with a move", x.made(), 2);
        Checks.due("back() to the move", x.back(), 2);
        Checks.due("back() to the pass", x.back(), 64);
        Checks.noElement("back() to what was before set", () -> x.back());
        x.begin();
        x.play(19);
        Checks.due("back() after begin", x.back(), 19);
        Checks.noElement("back() to what was before begin", () -> x.back());
    }

    private static void rowAtMost64() {
        LongGames[] full = {LongGames.MOVE_LEFT, LongGames.PASS_LEFT, LongGames.MOVE_LEFT_OF_8};
        for (LongGames game : full) {
            TurnedDiscs x = game.played(63);
            Checks.due("made() at 63", x.made(), 63);
            x.play(game.square(63));
            Checks.due("made() at 64", x.made(), 64);
            int next = x.moves() == 0 ? 64 : Long.numberOfTrailingZeros(x.moves());
            Checks.state("play(" + next + "), the 65th", () -> x.play(next));
            Checks.due("made() after it", x.made(), 64);
            game.dueWayBack(x, 64);
        }
    }

    private static void firstOfTheThrowsClause() {
        LongGames[] full = {LongGames.MOVE_LEFT, LongGames.PASS_LEFT, LongGames.OVER_AT_64, LongGames.OVER_WITH_8};
        for (LongGames game : full) {
            TurnedDiscs now = game.played();
            for (int s : new int[] {Integer.MIN_VALUE, -1, 0, 1, 62, 63, 64, 65, Integer.MAX_VALUE}) {
                boolean move = s >= 0 && s < 64 && (now.moves() >>> s & 1) == 1;
                boolean pass = s == 64 && now.moves() == 0 && !now.over();
                if (!move && !pass) {
                    Checks.refusedArgument("play(" + s + ") wrong, in a full row", game::played, x -> x.play(s));
                }
            }
        }
        long move = LongGames.MOVE_LEFT.played().moves();
        Checks.refusedState("play of a move in a full row", LongGames.MOVE_LEFT::played,
                x -> x.play(Long.numberOfTrailingZeros(move)));
        Checks.refusedState("play(64) of a pass in a full row", LongGames.PASS_LEFT::played, x -> x.play(64));
    }

    private static void constants() {
        Checks.due("PASS", TurnedDiscs.PASS, 64);
        Checks.due("OVER", TurnedDiscs.OVER, 65);
        long one = Checks.bits(1);
        TurnedDiscs x = Checks.at(~(one | 1L), one, 1);
        Checks.due("best() of the player who must pass", x.best(), TurnedDiscs.PASS);
        x.play(TurnedDiscs.PASS);
        Checks.due("best() of the other one", x.best(), 0);
        x.play(0);
        Checks.due("best() of a game that is over", x.best(), TurnedDiscs.OVER);
    }
}
