/** Long mixed runs of calls, each answer held against that of PlainOthello. */
public final class ComparisonTest {
    // A number sequence of our own, so that every run of the test is the same.
    private static long seed = 20261115;

    private static TurnedDiscs x;
    private static PlainOthello y;
    private static String run;
    private static int calls;

    // Nothing is promised after an object's 512th call. Behind the last call of a run there may still
    // come the state, and twice a way back from 64.
    private static final int CALLS_OF_A_RUN = 350;
    private static final int CALLS_WITH_STATES = 300;

    public static void main(String[] args) {
        for (int i = 0; i < 250; i++) {
            mixedRun("game " + i);
        }
        for (int i = 0; i < 400; i++) {
            settledPosition("position " + i);
        }
        for (int i = 0; i < 250; i++) {
            lastSquares("last squares " + i, below(8) + (below(10) == 0 ? 1 : 0), anyBits());
        }
        // With few discs of one player some squares stay empty to the end, and outcomes are odd.
        for (int i = 0; i < 3000; i++) {
            lastSquares("last squares, few of one " + i, 2 + below(4), anyBits() & anyBits() & anyBits());
        }
        Checks.end();
    }

    private static int below(int bound) {
        seed = seed * 6364136223846793005L + 1442695040888963407L;
        return (int) ((seed >>> 33) % bound);
    }

    private static long anyBits() {
        return ((long) below(1 << 22) << 42) ^ ((long) below(1 << 22) << 21) ^ below(1 << 22);
    }

    private static void fresh(String name) {
        run = name;
        calls = 0;
        x = new TurnedDiscs();
        y = new PlainOthello();
    }

    private static void same(String call, Checks.Call got, Checks.Call want) {
        calls++;
        Checks.due(run + ": " + call, Checks.answer(got), Checks.answer(want));
    }

    private static void mixedRun(String name) {
        fresh(name);
        while (calls < CALLS_OF_A_RUN) {
            anyCall();
            if (below(3) == 0) {
                sameState();
            }
        }
        sameWayBack();
    }

    private static void anyCall() {
        int kind = below(40);
        if (kind < 24) {
            playSome();
        } else if (kind < 27) {
            same("back()", () -> x.back(), () -> y.back());
        } else if (kind < 30) {
            int square = below(68) - 2;
            same("play(" + square + ")", () -> x.play(square), () -> y.play(square));
        } else if (kind < 32) {
            int square = below(68) - 2;
            same("turns(" + square + ")", () -> x.turns(square), () -> y.turns(square));
        } else if (kind < 36) {
            sameViews(below(4) - 1);
        } else if (kind == 36) {
            sameSearches();
        } else if (kind == 37) {
            int n = below(4) - 1;
            same("count(" + n + ")", () -> x.count(n), () -> y.count(n));
        } else if (kind == 38 && below(5) == 0) {
            calls++;
            x.begin();
            y.begin();
        } else if (kind == 39 && below(5) == 0) {
            setSome();
        }
    }

    /** One of the moves that may be made, or the pass; with the game over, a new beginning now and then. */
    private static void playSome() {
        long moves = y.moves();
        int square = 64;
        if (moves != 0) {
            int skip = below(Long.bitCount(moves));
            for (int i = 0; i < skip; i++) {
                moves &= moves - 1;
            }
            square = Long.numberOfTrailingZeros(moves);
        }
        int chosen = square;
        same("play(" + chosen + ")", () -> x.play(chosen), () -> y.play(chosen));
        if (y.over() && below(6) == 0) {
            sameWayBack();
        }
    }

    private static void setSome() {
        long taken = anyBits() | anyBits();
        long who = anyBits();
        long discs0 = taken & who;
        long discs1 = taken & ~who | (below(4) == 0 ? anyBits() & anyBits() : 0);
        int player = below(4) - 1;
        calls++;
        Checks.due(run + ": set(" + discs0 + ", " + discs1 + ", " + player + ")",
                Checks.answer(() -> x.set(discs0, discs1, player)),
                Checks.answer(() -> y.set(discs0, discs1, player)));
    }

    private static void sameState() {
        same("discs(0)", () -> x.discs(0), () -> y.discs(0));
        same("discs(1)", () -> x.discs(1), () -> y.discs(1));
        same("player()", () -> x.player(), () -> y.player());
        same("made()", () -> x.made(), () -> y.made());
    }

    private static void sameViews(int player) {
        same("discs(" + player + ")", () -> x.discs(player), () -> y.discs(player));
        same("border(" + player + ")", () -> x.border(player), () -> y.border(player));
        same("safe(" + player + ")", () -> x.safe(player), () -> y.safe(player));
        same("moves()", () -> x.moves(), () -> y.moves());
        same("difference()", () -> x.difference(), () -> y.difference());
        same("over()", () -> x.over() ? 1 : 0, () -> y.over() ? 1 : 0);
    }

    private static void sameSearches() {
        same("outcome()", () -> x.outcome(), () -> y.outcome());
        same("best()", () -> x.best(), () -> y.best());
        same("finish()", () -> x.finish(), () -> y.finish());
    }

    private static void sameWayBack() {
        int steps = y.made();
        for (int i = 0; i <= steps; i++) {
            same("back()", () -> x.back(), () -> y.back());
            if (calls < CALLS_WITH_STATES) {
                sameState();
            }
        }
        sameState();
    }

    /** Any position at all, thin or full, with every square asked. */
    private static void settledPosition(String name) {
        fresh(name);
        long taken = anyBits();
        for (int i = below(3); i > 0; i--) {
            taken |= anyBits();
        }
        long who = below(2) == 0 ? anyBits() : anyBits() & anyBits();
        int player = below(2);
        x.set(taken & who, taken & ~who, player);
        y.set(taken & who, taken & ~who, player);
        for (int s = 0; s < 64; s++) {
            int square = s;
            same("turns(" + square + ")", () -> x.turns(square), () -> y.turns(square));
        }
        sameViews(0);
        sameViews(1);
        for (int n = 0; n <= 2; n++) {
            int length = n;
            same("count(" + length + ")", () -> x.count(length), () -> y.count(length));
        }
        sameState();
    }

    /** A nearly full board, some with one empty square too many. */
    private static void lastSquares(String name, int emptySquares, long who) {
        fresh(name);
        long empty = 0;
        while (Long.bitCount(empty) < emptySquares) {
            empty |= 1L << below(64);
        }
        int player = below(2);
        x.set(who & ~empty, ~who & ~empty, player);
        y.set(who & ~empty, ~who & ~empty, player);
        for (int n = 0; n <= 4; n++) {
            int length = n;
            same("count(" + length + ")", () -> x.count(length), () -> y.count(length));
        }
        sameViews(0);
        sameViews(1);
        sameSearches();
        sameState();
        sameWayBack();
    }
}
