import java.util.NoSuchElementException;

/**
 * Othello on eight rows and eight columns. Square 8 * r + c is bit 8 * r + c of a long, so that
 * one shift moves every disc of a player at once.
 */
public final class TurnedDiscs {
    public static final int PASS = 64, OVER = 65;

    private static final int SQUARES = 64;
    private static final int ROW_LIMIT = 64;
    private static final int COUNT_LIMIT = 4;
    private static final int FEW_EMPTY = 7;
    // Seven moves at the most, and at the most one pass before each of them.
    private static final int LONGEST_FINISH = 2 * FEW_EMPTY;
    // One more than any outcome can be.
    private static final int BEYOND = SQUARES + 1;

    private static final long BEGIN_0 = 1L << 28 | 1L << 35;
    private static final long BEGIN_1 = 1L << 27 | 1L << 36;

    private static final long COLUMN_0 = 0x0101010101010101L;
    private static final long COLUMN_7 = COLUMN_0 << 7;
    private static final long ROW_0 = 0xFFL;
    private static final long ROW_7 = ROW_0 << 56;
    // A disc in an outer column is never turned sideways, and leaving it out keeps
    // a shift from running on into the next row.
    private static final long INNER_COLUMNS = ~(COLUMN_0 | COLUMN_7);

    // What one step along a line adds to a square's number, or takes from it the other way.
    private static final int ALONG_ROW = 1;
    private static final int ALONG_FALLING = 9;
    private static final int ALONG_COLUMN = 8;
    private static final int ALONG_RISING = 7;

    private long own;
    private long other;
    private int player;

    private int made;
    private final int[] squares = new int[ROW_LIMIT];
    private final long[] turned = new long[ROW_LIMIT];

    private final int[] plan = new int[LONGEST_FINISH];

    public TurnedDiscs() {
        setUp(BEGIN_0, BEGIN_1, 0);
    }

    public void begin() {
        setUp(BEGIN_0, BEGIN_1, 0);
    }

    public void set(long discs0, long discs1, int player) throws IllegalArgumentException {
        if ((discs0 & discs1) != 0) {
            throw new IllegalArgumentException("a square is in both");
        }
        requirePlayer(player);
        if (player == 0) {
            setUp(discs0, discs1, 0);
        } else {
            setUp(discs1, discs0, 1);
        }
    }

    public long discs(int player) throws IllegalArgumentException {
        requirePlayer(player);
        return discsOf(player);
    }

    public int player() {
        return player;
    }

    public long moves() {
        return movesOf(own, other);
    }

    public long turns(int square) throws IllegalArgumentException {
        if (square < 0 || square >= SQUARES) {
            throw new IllegalArgumentException("square is not 0 .. 63");
        }
        long disc = discOn(square);
        return (disc & empty()) == 0 ? 0 : turnedBy(own, other, disc);
    }

    public boolean over() {
        return isOver(own, other);
    }

    public int play(int square) throws IllegalArgumentException, IllegalStateException {
        if (!mayPlay(square)) {
            throw new IllegalArgumentException("no move, and no pass that must be made");
        }
        if (made >= ROW_LIMIT) {
            throw new IllegalStateException("the row is full");
        }
        return make(square);
    }

    public int back() throws NoSuchElementException {
        if (made <= 0) {
            throw new NoSuchElementException("the row is empty");
        }
        made--;
        int square = squares[made];
        long flipped = turned[made];
        long before = other ^ (discOn(square) | flipped);
        other = own | flipped;
        own = before;
        player = 1 - player;
        return square;
    }

    public int made() {
        return made;
    }

    public int difference() {
        return lead(discsOf(0), discsOf(1));
    }

    public long count(int n) throws IllegalArgumentException {
        if (n < 0 || n > COUNT_LIMIT) {
            throw new IllegalArgumentException("n is not 0 .. 4");
        }
        return rowsFrom(own, other, n);
    }

    public int outcome() throws IllegalStateException {
        requireFewEmpty();
        return worth(own, other, -BEYOND, BEYOND, LONGEST_FINISH);
    }

    public int best() throws IllegalStateException {
        requireFewEmpty();
        return bestSquare(own, other);
    }

    public int finish() throws IllegalStateException {
        requireFewEmpty();
        int length = planFinish();
        if (made + length > ROW_LIMIT) {
            throw new IllegalStateException("the row would be too long");
        }
        for (int i = 0; i < length; i++) {
            make(plan[i]);
        }
        return length;
    }

    public int border(int player) throws IllegalArgumentException {
        requirePlayer(player);
        return Long.bitCount(withNeighbours(discsOf(player)) & empty());
    }

    public long safe(int player) throws IllegalArgumentException {
        requirePlayer(player);
        long discs = discsOf(player);
        return discs
                & heldAlong(discs, ALONG_ROW, COLUMN_7, COLUMN_0)
                & heldAlong(discs, ALONG_COLUMN, ROW_7, ROW_0)
                & heldAlong(discs, ALONG_FALLING, COLUMN_7 | ROW_7, COLUMN_0 | ROW_0)
                & heldAlong(discs, ALONG_RISING, COLUMN_0 | ROW_7, COLUMN_7 | ROW_0);
    }

    private static void requirePlayer(int player) {
        if (player != 0 && player != 1) {
            throw new IllegalArgumentException("player is not 0 or 1");
        }
    }

    private void requireFewEmpty() {
        if (Long.bitCount(empty()) > FEW_EMPTY) {
            throw new IllegalStateException("more than 7 empty squares");
        }
    }

    private void setUp(long toMove, long waiting, int who) {
        own = toMove;
        other = waiting;
        player = who;
        made = 0;
    }

    private long discsOf(int who) {
        return who == player ? own : other;
    }

    private long empty() {
        return ~(own | other);
    }

    private boolean mayPlay(int square) {
        if (square == PASS) {
            return movesOf(own, other) == 0 && movesOf(other, own) != 0;
        }
        return square >= 0 && square < SQUARES && (movesOf(own, other) & discOn(square)) != 0;
    }

    /** A move that may be made, or a pass, with room for it in the row: how many discs it turns. */
    private int make(int square) {
        long disc = discOn(square);
        long flipped = turnedBy(own, other, disc);
        squares[made] = square;
        turned[made] = flipped;
        made++;
        long next = other ^ flipped;
        other = own | disc | flipped;
        own = next;
        player = 1 - player;
        return Long.bitCount(flipped);
    }

    /** Writes the best moves and passes into the plan without making them, so that finish may still refuse. */
    private int planFinish() {
        long mover = own;
        long waiter = other;
        for (int i = 0; i < LONGEST_FINISH; i++) {
            int square = bestSquare(mover, waiter);
            if (square == OVER) {
                return i;
            }
            plan[i] = square;
            long disc = discOn(square);
            long flipped = turnedBy(mover, waiter, disc);
            long next = waiter ^ flipped;
            waiter = mover | disc | flipped;
            mover = next;
        }
        return LONGEST_FINISH;
    }

    /** The square as a bit; a pass puts no disc. */
    private static long discOn(int square) {
        return square < SQUARES ? 1L << square : 0;
    }

    private static int lead(long mine, long yours) {
        return Long.bitCount(mine) - Long.bitCount(yours);
    }

    private static boolean isOver(long mine, long yours) {
        return movesOf(mine, yours) == 0 && movesOf(yours, mine) == 0;
    }

    private static long movesOf(long mine, long yours) {
        long inner = yours & INNER_COLUMNS;
        long ends = endsAlong(mine, inner, ALONG_ROW)
                | endsAlong(mine, yours, ALONG_COLUMN)
                | endsAlong(mine, inner, ALONG_FALLING)
                | endsAlong(mine, inner, ALONG_RISING);
        return ends & ~(mine | yours);
    }

    /** The squares right behind a gapless run of the other one's discs that begins next to one of mine. */
    private static long endsAlong(long mine, long yours, int shift) {
        return runUp(mine, yours, shift) << shift | runDown(mine, yours, shift) >>> shift;
    }

    /** What a disc of mine on an empty square turns; nothing when there is no disc. */
    private static long turnedBy(long mine, long yours, long disc) {
        long inner = yours & INNER_COLUMNS;
        return turnedAlong(mine, yours, disc, ALONG_COLUMN)
                | turnedAlong(mine, inner, disc, ALONG_ROW)
                | turnedAlong(mine, inner, disc, ALONG_FALLING)
                | turnedAlong(mine, inner, disc, ALONG_RISING);
    }

    private static long turnedAlong(long mine, long yours, long disc, int shift) {
        long up = runUp(disc, yours, shift);
        long down = runDown(disc, yours, shift);
        long flipped = (up << shift & mine) != 0 ? up : 0;
        return (down >>> shift & mine) != 0 ? flipped | down : flipped;
    }

    // Between a disc and another one in the same line are six squares at the most: six steps
    // reach every run that can be turned.
    private static long runUp(long from, long yours, int shift) {
        long run = from << shift & yours;
        run |= run << shift & yours;
        run |= run << shift & yours;
        run |= run << shift & yours;
        run |= run << shift & yours;
        return run | (run << shift & yours);
    }

    private static long runDown(long from, long yours, int shift) {
        long run = from >>> shift & yours;
        run |= run >>> shift & yours;
        run |= run >>> shift & yours;
        run |= run >>> shift & yours;
        run |= run >>> shift & yours;
        return run | (run >>> shift & yours);
    }

    private static long rowsFrom(long mine, long yours, int n) {
        if (n <= 0) {
            return 1;
        }
        long left = movesOf(mine, yours);
        if (left == 0) {
            return movesOf(yours, mine) == 0 ? 1 : rowsFrom(yours, mine, n - 1);
        }
        int choices = Long.bitCount(left);
        if (n == 1) {
            return choices;
        }
        long rows = 0;
        for (int i = 0; i < choices; i++) {
            long disc = left & -left;
            left ^= disc;
            long flipped = turnedBy(mine, yours, disc);
            rows += rowsFrom(yours ^ flipped, mine | disc | flipped, n - 1);
        }
        return rows;
    }

    /**
     * The outcome for the player of mine, where it lies between low and high; else a bound on the
     * same side of them, which is enough for a caller that has better already.
     */
    private static int worth(long mine, long yours, int low, int high, int depth) {
        long left = movesOf(mine, yours);
        if (depth <= 0 || (left == 0 && movesOf(yours, mine) == 0)) {
            return lead(mine, yours);
        }
        if (left == 0) {
            return -worth(yours, mine, -high, -low, depth - 1);
        }
        int most = -BEYOND;
        int choices = Long.bitCount(left);
        for (int i = 0; i < choices && most < high; i++) {
            long disc = left & -left;
            left ^= disc;
            most = Math.max(most, worthOf(mine, yours, disc, Math.max(low, most), high, depth));
        }
        return most;
    }

    private static int worthOf(long mine, long yours, long disc, int low, int high, int depth) {
        long flipped = turnedBy(mine, yours, disc);
        return -worth(yours ^ flipped, mine | disc | flipped, -high, -low, depth - 1);
    }

    private static int bestSquare(long mine, long yours) {
        long left = movesOf(mine, yours);
        if (left == 0) {
            return movesOf(yours, mine) == 0 ? OVER : PASS;
        }
        long chosen = 0;
        int most = -BEYOND;
        int choices = Long.bitCount(left);
        for (int i = 0; i < choices; i++) {
            long disc = left & -left;
            left ^= disc;
            int value = worthOf(mine, yours, disc, most, BEYOND, LONGEST_FINISH);
            // Only a greater one: of equals the least square, which came first, stays.
            if (value > most) {
                most = value;
                chosen = disc;
            }
        }
        return squareOf(chosen);
    }

    /** The number of a disc's square is the number of bits below it. */
    private static int squareOf(long disc) {
        return Long.bitCount(disc - 1);
    }

    private static long withNeighbours(long discs) {
        long sideways = discs | (discs << 1 & ~COLUMN_0) | (discs >>> 1 & ~COLUMN_7);
        return sideways | sideways << 8 | sideways >>> 8;
    }

    /**
     * The squares from which the line up or the line down has nothing but discs of mine: those
     * at its edge, where it has no squares, and then those next to one of mine that is such a square.
     * What a shift carries round the edge lands on squares that are in already.
     */
    private static long heldAlong(long mine, int shift, long edgeUp, long edgeDown) {
        long up = edgeUp;
        long down = edgeDown;
        for (int i = 0; i < 7; i++) {
            up |= (up & mine) >>> shift;
            down |= (down & mine) << shift;
        }
        return up | down;
    }
}
