import java.util.ArrayList;
import java.util.List;
import java.util.NoSuchElementException;

/**
 * The document's words done square by square, with no shifts and no pruning: slow, and as
 * different from the program as can be, so that the two do not err alike.
 */
final class PlainOthello {
    private static final int NONE = -1;
    static final int[][] DIRECTIONS = {
        {-1, -1}, {-1, 0}, {-1, 1}, {0, -1}, {0, 1}, {1, -1}, {1, 0}, {1, 1}
    };

    private int[] board = new int[64];
    private int toMove;
    private final List<int[]> boards = new ArrayList<>();
    private final List<Integer> movers = new ArrayList<>();
    private final List<Integer> row = new ArrayList<>();

    PlainOthello() {
        begin();
    }

    void begin() {
        set(Checks.bits(28, 35), Checks.bits(27, 36), 0);
    }

    void set(long discs0, long discs1, int player) {
        int[] fresh = new int[64];
        for (int s = 0; s < 64; s++) {
            boolean in0 = (discs0 >>> s & 1) == 1;
            boolean in1 = (discs1 >>> s & 1) == 1;
            if (in0 && in1) {
                throw new IllegalArgumentException();
            }
            fresh[s] = in0 ? 0 : in1 ? 1 : NONE;
        }
        checkPlayer(player);
        board = fresh;
        toMove = player;
        boards.clear();
        movers.clear();
        row.clear();
    }

    long discs(int player) {
        checkPlayer(player);
        long bits = 0;
        for (int s = 0; s < 64; s++) {
            if (board[s] == player) {
                bits |= 1L << s;
            }
        }
        return bits;
    }

    int player() {
        return toMove;
    }

    long moves() {
        return asBits(movesOn(board, toMove));
    }

    long turns(int square) {
        if (square < 0 || square > 63) {
            throw new IllegalArgumentException();
        }
        return asBits(turnedOn(board, toMove, square));
    }

    boolean over() {
        return overOn(board);
    }

    int play(int square) {
        if (square < 0 || square > 64) {
            throw new IllegalArgumentException();
        }
        List<Integer> moves = movesOn(board, toMove);
        boolean allowed = square == 64
                ? moves.isEmpty() && !movesOn(board, 1 - toMove).isEmpty()
                : moves.contains(square);
        if (!allowed) {
            throw new IllegalArgumentException();
        }
        if (row.size() == 64) {
            throw new IllegalStateException();
        }
        int turned = square == 64 ? 0 : turnedOn(board, toMove, square).size();
        boards.add(board);
        movers.add(toMove);
        row.add(square);
        board = behind(board, toMove, square);
        toMove = 1 - toMove;
        return turned;
    }

    int back() {
        if (row.isEmpty()) {
            throw new NoSuchElementException();
        }
        board = boards.remove(boards.size() - 1);
        toMove = movers.remove(movers.size() - 1);
        return row.remove(row.size() - 1);
    }

    int made() {
        return row.size();
    }

    int difference() {
        return leadOn(board, 0);
    }

    long count(int n) {
        if (n < 0 || n > 4) {
            throw new IllegalArgumentException();
        }
        return countOn(board, toMove, n);
    }

    int outcome() {
        checkFewEmpty();
        return outcomeOn(board, toMove);
    }

    int best() {
        checkFewEmpty();
        return bestOn(board, toMove);
    }

    int finish() {
        checkFewEmpty();
        List<Integer> planned = new ArrayList<>();
        int[] b = board;
        int p = toMove;
        for (int square = bestOn(b, p); square != 65; square = bestOn(b, p)) {
            planned.add(square);
            b = behind(b, p, square);
            p = 1 - p;
        }
        if (row.size() + planned.size() > 64) {
            throw new IllegalStateException();
        }
        for (int square : planned) {
            play(square);
        }
        return planned.size();
    }

    int border(int player) {
        checkPlayer(player);
        int count = 0;
        for (int s = 0; s < 64; s++) {
            boolean next = false;
            for (int[] d : DIRECTIONS) {
                List<Integer> line = line(s, d);
                next |= !line.isEmpty() && board[line.get(0)] == player;
            }
            if (board[s] == NONE && next) {
                count++;
            }
        }
        return count;
    }

    long safe(int player) {
        checkPlayer(player);
        List<Integer> safe = new ArrayList<>();
        for (int s = 0; s < 64; s++) {
            boolean held = board[s] == player;
            for (int d = 0; d < 4; d++) {
                held &= allOf(line(s, DIRECTIONS[d]), player) || allOf(line(s, DIRECTIONS[7 - d]), player);
            }
            if (held) {
                safe.add(s);
            }
        }
        return asBits(safe);
    }

    private boolean allOf(List<Integer> line, int player) {
        for (int s : line) {
            if (board[s] != player) {
                return false;
            }
        }
        return true;
    }

    private static void checkPlayer(int player) {
        if (player != 0 && player != 1) {
            throw new IllegalArgumentException();
        }
    }

    private void checkFewEmpty() {
        int empty = 0;
        for (int s : board) {
            empty += s == NONE ? 1 : 0;
        }
        if (empty > 7) {
            throw new IllegalStateException();
        }
    }

    private static long asBits(List<Integer> squares) {
        long bits = 0;
        for (int s : squares) {
            bits |= 1L << s;
        }
        return bits;
    }

    static List<Integer> line(int square, int[] direction) {
        List<Integer> line = new ArrayList<>();
        int r = square / 8 + direction[0];
        int c = square % 8 + direction[1];
        while (r >= 0 && r < 8 && c >= 0 && c < 8) {
            line.add(8 * r + c);
            r += direction[0];
            c += direction[1];
        }
        return line;
    }

    private static List<Integer> turnedOn(int[] b, int p, int square) {
        List<Integer> turned = new ArrayList<>();
        if (b[square] != NONE) {
            return turned;
        }
        for (int[] d : DIRECTIONS) {
            List<Integer> first = new ArrayList<>();
            for (int s : line(square, d)) {
                if (b[s] == 1 - p) {
                    first.add(s);
                    continue;
                }
                if (b[s] == p) {
                    turned.addAll(first);
                }
                break;
            }
        }
        return turned;
    }

    private static List<Integer> movesOn(int[] b, int p) {
        List<Integer> moves = new ArrayList<>();
        for (int s = 0; s < 64; s++) {
            if (!turnedOn(b, p, s).isEmpty()) {
                moves.add(s);
            }
        }
        return moves;
    }

    private static boolean overOn(int[] b) {
        return movesOn(b, 0).isEmpty() && movesOn(b, 1).isEmpty();
    }

    private static int leadOn(int[] b, int p) {
        int lead = 0;
        for (int s : b) {
            lead += s == NONE ? 0 : s == p ? 1 : -1;
        }
        return lead;
    }

    private static int[] behind(int[] b, int p, int square) {
        int[] next = b.clone();
        if (square < 64) {
            for (int s : turnedOn(b, p, square)) {
                next[s] = p;
            }
            next[square] = p;
        }
        return next;
    }

    private static long countOn(int[] b, int p, int n) {
        if (n == 0 || overOn(b)) {
            return 1;
        }
        long rows = 0;
        for (int square : choicesOn(b, p)) {
            rows += countOn(behind(b, p, square), 1 - p, n - 1);
        }
        return rows;
    }

    private static List<Integer> choicesOn(int[] b, int p) {
        List<Integer> moves = movesOn(b, p);
        return moves.isEmpty() ? List.of(64) : moves;
    }

    private static int outcomeOn(int[] b, int p) {
        if (overOn(b)) {
            return leadOn(b, p);
        }
        int greatest = Integer.MIN_VALUE;
        for (int square : choicesOn(b, p)) {
            greatest = Math.max(greatest, -outcomeOn(behind(b, p, square), 1 - p));
        }
        return greatest;
    }

    private static int bestOn(int[] b, int p) {
        if (overOn(b)) {
            return 65;
        }
        int outcome = outcomeOn(b, p);
        for (int square : choicesOn(b, p)) {
            if (-outcomeOn(behind(b, p, square), 1 - p) == outcome) {
                return square;
            }
        }
        throw new AssertionError("no move comes to the outcome");
    }
}
