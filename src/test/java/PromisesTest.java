/** One method a promise: ordinary inputs, the edges that the document names, and wrong inputs. */
public final class PromisesTest {
    private static final int[] WRONG_PLAYERS = {-1, 2, 64, Integer.MIN_VALUE, Integer.MAX_VALUE};
    private static final long BEGIN_0 = Checks.bits(28, 35);
    private static final long BEGIN_1 = Checks.bits(27, 36);

    // All discs are player 0's but 1 and 62; the corners 0 and 63 are empty.
    private static final long TWO_CORNERS_1 = Checks.bits(1, 62);
    private static final long TWO_CORNERS_0 = ~(TWO_CORNERS_1 | Checks.bits(0, 63));

    public static void main(String[] args) {
        aNewObject();
        begin();
        set();
        setRefuses();
        discs();
        player();
        moves();
        turns();
        turnsOnlyWithinLines();
        over();
        play();
        playPasses();
        playRefuses();
        back();
        made();
        difference();
        count();
        outcome();
        best();
        finish();
        fewEmptySquares();
        border();
        safe();
        Checks.end();
    }

    private static void isTheBeginning(String when, TurnedDiscs x) {
        Checks.due("discs(0) " + when, x.discs(0), BEGIN_0);
        Checks.due("discs(1) " + when, x.discs(1), BEGIN_1);
        Checks.due("player() " + when, x.player(), 0);
        Checks.due("made() " + when, x.made(), 0);
        Checks.noElement("back() " + when, () -> x.back());
    }

    private static void aNewObject() {
        isTheBeginning("of a new object", new TurnedDiscs());
        TurnedDiscs x = new TurnedDiscs();
        x.play(19);
        isTheBeginning("of a second object", new TurnedDiscs());
    }

    private static void begin() {
        TurnedDiscs x = new TurnedDiscs();
        x.play(19);
        x.begin();
        isTheBeginning("after begin", x);
        x.set(1L, 2L, 1);
        x.begin();
        isTheBeginning("after set and begin", x);
    }

    private static void set() {
        TurnedDiscs x = new TurnedDiscs();
        x.play(19);
        x.set(Checks.bits(0, 63), Checks.bits(1, 62), 1);
        Checks.due("discs(0) after set", x.discs(0), Checks.bits(0, 63));
        Checks.due("discs(1) after set", x.discs(1), Checks.bits(1, 62));
        Checks.due("player() after set", x.player(), 1);
        Checks.due("made() after set", x.made(), 0);
        Checks.noElement("back() after set", () -> x.back());
        x.set(0, -1L, 0);
        Checks.due("discs(0) of none", x.discs(0), 0);
        Checks.due("discs(1) of all", x.discs(1), -1L);
        Checks.due("player() after set to 0", x.player(), 0);
        x.set(0, 0, 1);
        Checks.due("discs(1) of none", x.discs(1), 0);
    }

    private static void setRefuses() {
        TurnedDiscs x = new TurnedDiscs();
        x.play(19);
        String before = Checks.seen(x);
        String refused = "throws.IllegalArgumentException";
        Checks.due("set of square 0 twice", Checks.answer(() -> x.set(3L, 1L, 0)), refused);
        Checks.due("set of square 63 twice", Checks.answer(() -> x.set(-1L, Long.MIN_VALUE, 1)), refused);
        for (int wrong : WRONG_PLAYERS) {
            Checks.due("set for player " + wrong, Checks.answer(() -> x.set(1L, 2L, wrong)), refused);
        }
        Checks.due("what a refused set leaves", Checks.seen(x), before);
        Checks.due("the row that it leaves", x.back(), 19);
    }

    private static void discs() {
        TurnedDiscs x = new TurnedDiscs();
        x.play(19);
        Checks.due("discs(0) after 19", x.discs(0), Checks.bits(19, 27, 28, 35));
        Checks.due("discs(1) after 19", x.discs(1), Checks.bits(36));
        x.play(18);
        Checks.due("discs(0) after 18", x.discs(0), Checks.bits(19, 28, 35));
        Checks.due("discs(1) after 18", x.discs(1), Checks.bits(18, 27, 36));
        for (int wrong : WRONG_PLAYERS) {
            Checks.argument("discs(" + wrong + ")", () -> x.discs(wrong));
        }
    }

    private static void player() {
        TurnedDiscs x = new TurnedDiscs();
        Checks.due("player() first", x.player(), 0);
        x.play(19);
        Checks.due("player() after a move", x.player(), 1);
        x.play(18);
        Checks.due("player() after two", x.player(), 0);
        x.back();
        Checks.due("player() after back", x.player(), 1);
    }

    private static void moves() {
        TurnedDiscs x = new TurnedDiscs();
        Checks.due("moves() at the beginning", x.moves(), Checks.bits(19, 26, 37, 44));
        x.play(19);
        Checks.due("moves() of the other one", x.moves(), Checks.bits(18, 20, 34));
        Checks.due("moves() on an empty board", Checks.at(0, 0, 0).moves(), 0);
        Checks.due("moves() on a full board", Checks.at(-1L, 0, 1).moves(), 0);
        Checks.due("moves() over a line of six", Checks.at(1L, 0x7EL, 0).moves(), Checks.bits(7));
        Checks.due("moves() over seven to the edge", Checks.at(1L, 0xFEL, 0).moves(), 0);
        Checks.due("moves() of player 1", Checks.at(0x7EL, 1L, 1).moves(), Checks.bits(7));
        Checks.due("moves() not round the edge", Checks.at(Checks.bits(8), Checks.bits(7), 0).moves(), 0);
    }

    private static void turns() {
        TurnedDiscs x = new TurnedDiscs();
        Checks.due("turns(19)", x.turns(19), Checks.bits(27));
        Checks.due("turns(44)", x.turns(44), Checks.bits(36));
        Checks.due("turns(20), where none is turned", x.turns(20), 0);
        Checks.due("turns(0), far from all", x.turns(0), 0);
        Checks.due("turns(27), the other one's", x.turns(27), 0);
        Checks.due("turns(28), the player's own", x.turns(28), 0);
        for (int wrong : new int[] {-1, 64, 65, Integer.MIN_VALUE, Integer.MAX_VALUE}) {
            Checks.argument("turns(" + wrong + ")", () -> x.turns(wrong));
        }
        Checks.due("turns on a taken square with a line to turn", Checks.at(Checks.bits(0, 2), Checks.bits(1), 0).turns(0), 0);
        long near = Checks.bits(18, 19, 20, 26, 28, 34, 35, 36);
        long far = Checks.bits(9, 11, 13, 25, 29, 41, 43, 45);
        Checks.due("turns(27) in eight directions", Checks.at(far, near, 0).turns(27), near);
        Checks.due("turns(27) for player 1", Checks.at(near, far, 1).turns(27), near);
        Checks.due("turns(27) for the wrong one", Checks.at(near, far, 0).turns(27), 0);
    }

    private static void turnsOnlyWithinLines() {
        Checks.due("six to the right", Checks.at(Checks.bits(7), 0x7EL, 0).turns(0), 0x7EL);
        Checks.due("six to the left", Checks.at(Checks.bits(56), 0x7EL << 56, 0).turns(63), 0x7EL << 56);
        long column = Checks.bits(8, 16, 24, 32, 40, 48);
        Checks.due("six down", Checks.at(Checks.bits(56), column, 0).turns(0), column);
        Checks.due("six up", Checks.at(Checks.bits(0), column, 0).turns(56), column);
        long falling = Checks.bits(9, 18, 27, 36, 45, 54);
        Checks.due("six down a diagonal", Checks.at(Checks.bits(63), falling, 0).turns(0), falling);
        Checks.due("six up a diagonal", Checks.at(Checks.bits(0), falling, 0).turns(63), falling);
        long rising = Checks.bits(14, 21, 28, 35, 42, 49);
        Checks.due("six down the other diagonal", Checks.at(Checks.bits(56), rising, 0).turns(7), rising);
        Checks.due("six up the other diagonal", Checks.at(Checks.bits(7), rising, 0).turns(56), rising);
        Checks.due("not over a gap", Checks.at(Checks.bits(4), Checks.bits(1, 3), 0).turns(0), 0);
        Checks.due("not without an end", Checks.at(0, 0xFEL, 0).turns(0), 0);
        Checks.due("only up to the first own disc", Checks.at(Checks.bits(2, 4), Checks.bits(1, 3), 0).turns(0), Checks.bits(1));
        Checks.due("not round the right edge", Checks.at(Checks.bits(8), Checks.bits(7), 0).turns(6), 0);
        Checks.due("not round the left edge", Checks.at(Checks.bits(6), Checks.bits(7), 0).turns(8), 0);
        Checks.due("not round it on a diagonal", Checks.at(Checks.bits(24), Checks.bits(15), 0).turns(6), 0);
        Checks.due("not round it on the other", Checks.at(Checks.bits(23), Checks.bits(16), 0).turns(9), 0);
        Checks.due("not round the lower edge", Checks.at(Checks.bits(0), Checks.bits(56), 0).turns(48), 0);
    }

    private static void over() {
        Checks.due("over() at the beginning", new TurnedDiscs().over(), false);
        Checks.due("over() of an empty board", Checks.at(0, 0, 0).over(), true);
        Checks.due("over() of a full board", Checks.at(-2L, 1L, 0).over(), true);
        Checks.due("over() with one player's discs alone", Checks.at(BEGIN_0, 0, 1).over(), true);
        Checks.due("over() when the player must pass", Checks.at(2L, 1L, 0).over(), false);
        Checks.due("over() when the other one could not move", Checks.at(2L, 1L, 1).over(), false);
    }

    private static void play() {
        TurnedDiscs x = new TurnedDiscs();
        Checks.due("play(19)", x.play(19), 1);
        Checks.due("player() after it", x.player(), 1);
        Checks.due("play(34)", x.play(34), 1);
        Checks.due("discs(0) after both", x.discs(0), Checks.bits(19, 27, 28));
        Checks.due("discs(1) after both", x.discs(1), Checks.bits(34, 35, 36));
        long near = Checks.bits(18, 19, 20, 26, 28, 34, 35, 36);
        long far = Checks.bits(9, 11, 13, 25, 29, 41, 43, 45);
        TurnedDiscs star = Checks.at(near, far, 1);
        Checks.due("play(27) in eight directions", star.play(27), 8);
        Checks.due("discs(1) after it", star.discs(1), near | far | Checks.bits(27));
        Checks.due("discs(0) after it", star.discs(0), 0);
        TurnedDiscs corner = Checks.at(Checks.bits(61), Checks.bits(62), 0);
        Checks.due("play(63)", corner.play(63), 1);
    }

    private static void playPasses() {
        TurnedDiscs x = Checks.at(2L, 1L, 0);
        Checks.due("play(64) where it must be", x.play(64), 0);
        Checks.due("player() after the pass", x.player(), 1);
        Checks.due("discs(0) after the pass", x.discs(0), 2L);
        Checks.due("made() after the pass", x.made(), 1);
        Checks.due("play(2) then", x.play(2), 1);
        Checks.argument("play(64) when the game is over", () -> x.play(64));
        Checks.due("made() then", x.made(), 2);
    }

    private static void playRefuses() {
        TurnedDiscs x = new TurnedDiscs();
        x.play(19);
        String before = Checks.seen(x);
        int[] refused = {-1, -64, 65, 128, Integer.MIN_VALUE, Integer.MAX_VALUE, 0, 63, 19, 36, 26, 64};
        for (int square : refused) {
            Checks.argument("play(" + square + ")", () -> x.play(square));
        }
        Checks.due("what a refused play leaves", Checks.seen(x), before);
        Checks.argument("play(0) when passing is due", () -> Checks.at(2L, 1L, 0).play(0));
        Checks.argument("play(-1) where 63 is a move", () -> Checks.at(TWO_CORNERS_0, TWO_CORNERS_1, 0).play(-1));
        Checks.argument("play(128) where 0 is a move", () -> Checks.at(TWO_CORNERS_0, TWO_CORNERS_1, 0).play(128));
        Checks.argument("play(64) where 0 is a move", () -> Checks.at(TWO_CORNERS_0, TWO_CORNERS_1, 0).play(64));
    }

    private static void back() {
        TurnedDiscs x = new TurnedDiscs();
        String first = Checks.seen(x);
        Checks.noElement("back() at the beginning", () -> x.back());
        x.play(19);
        String second = Checks.seen(x);
        x.play(18);
        Checks.due("back() from 18", x.back(), 18);
        Checks.due("what it leads to", Checks.seen(x), second);
        Checks.due("back() from 19", x.back(), 19);
        Checks.due("what that leads to", Checks.seen(x), first);
        Checks.noElement("back() once more", () -> x.back());
        TurnedDiscs y = Checks.at(2L, 1L, 0);
        y.play(64);
        y.play(2);
        Checks.due("back() from 2", y.back(), 2);
        Checks.due("back() from the pass", y.back(), 64);
        Checks.due("player() before the pass", y.player(), 0);
        Checks.due("discs(1) before the pass", y.discs(1), 1L);
        Checks.due("play after back", y.play(64), 0);
    }

    private static void made() {
        TurnedDiscs x = new TurnedDiscs();
        Checks.due("made() at first", x.made(), 0);
        x.play(19);
        x.play(18);
        Checks.due("made() after two", x.made(), 2);
        x.back();
        Checks.due("made() after back", x.made(), 1);
        x.set(1L, 2L, 0);
        Checks.due("made() after set", x.made(), 0);
    }

    private static void difference() {
        TurnedDiscs x = new TurnedDiscs();
        Checks.due("difference() at the beginning", x.difference(), 0);
        x.play(19);
        Checks.due("difference() after 19", x.difference(), 3);
        Checks.due("difference() of all", Checks.at(-1L, 0, 1).difference(), 64);
        Checks.due("difference() of all of player 1", Checks.at(0, -1L, 1).difference(), -64);
        Checks.due("difference() of none", Checks.at(0, 0, 1).difference(), 0);
    }

    private static void count() {
        TurnedDiscs x = new TurnedDiscs();
        long[] rows = {1, 4, 12, 56, 244};
        for (int n = 0; n < rows.length; n++) {
            Checks.due("count(" + n + ") at the beginning", x.count(n), rows[n]);
            Checks.due("count(" + n + ") of a game that is over", Checks.at(0, 0, 0).count(n), 1);
            Checks.due("count(" + n + ") of a pass, a move and the end", Checks.at(2L, 1L, 0).count(n), 1);
        }
        for (int wrong : new int[] {-1, 5, Integer.MIN_VALUE, Integer.MAX_VALUE}) {
            Checks.argument("count(" + wrong + ")", () -> x.count(wrong));
        }
        // Either corner, a pass, the other corner, the end.
        long[] corners = {1, 2, 2, 2, 2};
        for (int n = 0; n < corners.length; n++) {
            Checks.due("count(" + n + ") with two corners", Checks.at(TWO_CORNERS_0, TWO_CORNERS_1, 0).count(n), corners[n]);
        }
        // A pass comes before them.
        long[] behindAPass = {1, 1, 2, 2, 2};
        for (int n = 0; n < behindAPass.length; n++) {
            Checks.due("count(" + n + ") behind a pass", Checks.at(TWO_CORNERS_0, TWO_CORNERS_1, 1).count(n), behindAPass[n]);
        }
        Checks.due("count leaves the row", x.made(), 0);
    }

    private static void outcome() {
        Checks.due("outcome() of a full board", Checks.at(-1L, 0, 0).outcome(), 64);
        Checks.due("outcome() of it for the other one", Checks.at(-1L, 0, 1).outcome(), -64);
        Checks.due("outcome() with an empty square left", Checks.at(Long.MAX_VALUE, 0, 1).outcome(), -63);
        Checks.due("outcome() with two corners", Checks.at(TWO_CORNERS_0, TWO_CORNERS_1, 0).outcome(), 64);
        Checks.due("outcome() behind a pass", Checks.at(TWO_CORNERS_0, TWO_CORNERS_1, 1).outcome(), -64);
        Checks.due("outcome() for player 1", Checks.at(TWO_CORNERS_1, TWO_CORNERS_0, 1).outcome(), 64);
        TurnedDiscs x = Checks.at(3294060342222220694L, -8050144123213807095L, 0);
        String before = Checks.seen(x);
        Checks.due("outcome() over some moves", x.outcome(), -2);
        Checks.due("what outcome leaves", Checks.seen(x), before);
    }

    private static void best() {
        Checks.due("best() of a full board", Checks.at(-1L, 0, 0).best(), TurnedDiscs.OVER);
        Checks.due("best() with no move left", Checks.at(0, Long.MAX_VALUE, 0).best(), TurnedDiscs.OVER);
        Checks.due("best() where a pass is due", Checks.at(TWO_CORNERS_0, TWO_CORNERS_1, 1).best(), TurnedDiscs.PASS);
        Checks.due("best() of two that are as good", Checks.at(TWO_CORNERS_0, TWO_CORNERS_1, 0).best(), 0);
        TurnedDiscs last = Checks.at(~Checks.bits(62, 63), Checks.bits(62), 0);
        Checks.due("best() on square 63", last.best(), 63);
        TurnedDiscs x = Checks.at(3294060342222220694L, -8050144123213807095L, 0);
        String before = Checks.seen(x);
        Checks.due("best() of several", x.best(), 62);
        Checks.due("what best leaves", Checks.seen(x), before);
    }

    private static void finish() {
        TurnedDiscs x = Checks.at(TWO_CORNERS_0, TWO_CORNERS_1, 0);
        Checks.due("finish() with two corners", x.finish(), 3);
        Checks.due("made() after finish", x.made(), 3);
        Checks.due("over() after finish", x.over(), true);
        Checks.due("difference() after finish", x.difference(), 64);
        Checks.due("finish() again", x.finish(), 0);
        Checks.due("back() after finish", x.back(), 63);
        Checks.due("back() to the pass", x.back(), 64);
        Checks.due("back() to the first", x.back(), 0);
        Checks.noElement("back() before finish", () -> x.back());
        Checks.due("discs(1) as before", x.discs(1), TWO_CORNERS_1);
        Checks.due("finish() beginning with a pass", Checks.at(TWO_CORNERS_0, TWO_CORNERS_1, 1).finish(), 4);
        TurnedDiscs longest = Checks.at(-3537858982276237680L, 7036874417768770L, 1);
        Checks.due("outcome() over seven moves with a pass before each", longest.outcome(), -64);
        Checks.due("finish() over seven moves with a pass before each", longest.finish(), 14);
        Checks.due("difference() after them", longest.difference(), 64);
        TurnedDiscs later = Checks.at(TWO_CORNERS_0, TWO_CORNERS_1, 0);
        later.play(63);
        Checks.due("finish() behind a move", later.finish(), 2);
        Checks.due("made() then", later.made(), 3);
    }

    private static void fewEmptySquares() {
        TurnedDiscs seven = Checks.at(~0x7FL, 0, 0);
        Checks.due("outcome() with 7 empty", seven.outcome(), 57);
        Checks.due("best() with 7 empty", seven.best(), TurnedDiscs.OVER);
        Checks.due("finish() with 7 empty", seven.finish(), 0);
        TurnedDiscs eight = Checks.at(~0xFFL, 0, 0);
        Checks.state("outcome() with 8 empty", () -> eight.outcome());
        Checks.state("best() with 8 empty, though over", () -> eight.best());
        Checks.state("finish() with 8 empty, though over", () -> eight.finish());
        TurnedDiscs x = new TurnedDiscs();
        x.play(19);
        String before = Checks.seen(x);
        Checks.state("outcome() early", () -> x.outcome());
        Checks.state("best() early", () -> x.best());
        Checks.state("finish() early", () -> x.finish());
        Checks.due("what they leave", Checks.seen(x), before);
    }

    private static void border() {
        TurnedDiscs x = new TurnedDiscs();
        Checks.due("border(0) at the beginning", x.border(0), 10);
        Checks.due("border(1) at the beginning", x.border(1), 10);
        Checks.due("border(0) of a corner", Checks.at(Checks.bits(0), 0, 0).border(0), 3);
        Checks.due("border(0) of the right corner", Checks.at(Checks.bits(7), 0, 0).border(0), 3);
        Checks.due("border(0) of the last corner", Checks.at(Checks.bits(63), 0, 0).border(0), 3);
        Checks.due("border(0) at the left edge", Checks.at(Checks.bits(8), 0, 0).border(0), 5);
        Checks.due("border(0) at the right edge", Checks.at(Checks.bits(15), 0, 0).border(0), 5);
        Checks.due("border(0) inside", Checks.at(Checks.bits(9), 0, 1).border(0), 8);
        Checks.due("border(0) counts a square once", Checks.at(Checks.bits(0, 2), 0, 0).border(0), 6);
        Checks.due("border(0) beside the other one", Checks.at(Checks.bits(0), Checks.bits(1), 0).border(0), 2);
        Checks.due("border(1) beside the other one", Checks.at(Checks.bits(0), Checks.bits(1), 0).border(1), 4);
        Checks.due("border(1) of none", Checks.at(Checks.bits(0), 0, 0).border(1), 0);
        Checks.due("border(0) of a full board", Checks.at(-1L, 0, 0).border(0), 0);
        for (int wrong : WRONG_PLAYERS) {
            Checks.argument("border(" + wrong + ")", () -> x.border(wrong));
        }
    }

    private static void safe() {
        TurnedDiscs x = new TurnedDiscs();
        Checks.due("safe(0) at the beginning", x.safe(0), 0);
        Checks.due("safe(0) of a full board", Checks.at(-1L, 0, 1).safe(0), -1L);
        Checks.due("safe(1) of a full board", Checks.at(-1L, 0, 1).safe(1), 0);
        long corners = Checks.bits(0, 7, 56, 63);
        Checks.due("safe(1) of the corners", Checks.at(0, corners, 0).safe(1), corners);
        long along = Checks.bits(0, 1, 2);
        Checks.due("safe(0) of a run from a corner", Checks.at(along | Checks.bits(4), 0, 0).safe(0), along);
        long down = Checks.bits(0, 8, 16);
        Checks.due("safe(0) of a run down from a corner", Checks.at(down | Checks.bits(32), 0, 0).safe(0), down);
        Checks.due("safe(0) behind the other one", Checks.at(Checks.bits(0, 2), Checks.bits(1), 0).safe(0), Checks.bits(0));
        long wedge = Checks.bits(0, 1, 2, 8, 9, 16);
        Checks.due("safe(0) of a wedge", Checks.at(wedge, 0, 0).safe(0), wedge);
        // Without 2 and 16 nothing holds 9 on its rising diagonal.
        long corner = Checks.bits(0, 1, 8);
        Checks.due("safe(0) of a square of four", Checks.at(corner | Checks.bits(9), 0, 0).safe(0), corner);
        long lower = Checks.bits(63, 62, 61, 55, 54, 47);
        Checks.due("safe(1) of a wedge below", Checks.at(0, lower, 0).safe(1), lower);
        for (int wrong : WRONG_PLAYERS) {
            Checks.argument("safe(" + wrong + ")", () -> x.safe(wrong));
        }
    }
}
