import java.io.IOException;
import java.nio.file.Files;
import java.nio.file.Path;
import java.util.HashSet;
import java.util.List;
import java.util.Set;

/** What README.md shows of the class's use stands here too, line by line, and answers what it says. */
public final class UsageTest {
    private static final String BLOCK_BEGINS = "```java";
    private static final String BLOCK_ENDS = "```";

    public static void main(String[] args) throws IOException {
        TurnedDiscs game = new TurnedDiscs();
        aGame(game);
        theLastSquares(game);
        wrongCalls();
        readmeShowsTheseLines();
        readmeNamesEveryCall();
        Checks.end();
    }

    private static void aGame(TurnedDiscs game) {
        long squares = game.moves();
        long wouldTurn = game.turns(19);
        int turned = game.play(19);
        int lead = game.difference();
        long rows = game.count(2);
        int square = game.back();
        Checks.due("moves()", squares, Checks.bits(19, 26, 37, 44));
        Checks.due("turns(19)", wouldTurn, Checks.bits(27));
        Checks.due("play(19)", turned, 1);
        Checks.due("difference()", lead, 3);
        Checks.due("count(2)", rows, 14);
        Checks.due("back()", square, 19);
        Checks.due("player() then", game.player(), 0);
    }

    private static void theLastSquares(TurnedDiscs game) {
        long discs1 = 1L << 1 | 1L << 62;
        long discs0 = ~(discs1 | 1L << 0 | 1L << 63);
        game.set(discs0, discs1, 0);
        int outcome = game.outcome();
        int best = game.best();
        int made = game.finish();
        boolean over = game.over();
        Checks.due("outcome()", outcome, 64);
        Checks.due("best()", best, 0);
        Checks.due("finish()", made, 3);
        Checks.due("over()", over, true);
        Checks.due("the last move of the row", game.back(), 63);
        Checks.due("the pass before it", game.back(), TurnedDiscs.PASS);
        Checks.due("the first move", game.back(), 0);
    }

    private static void wrongCalls() {
        TurnedDiscs game = new TurnedDiscs();
        Checks.argument("play(20) at the beginning", () -> game.play(20));
        Checks.state("outcome() at the beginning", () -> game.outcome());
        Checks.noElement("back() at the beginning", () -> game.back());
    }

    private static void readmeShowsTheseLines() throws IOException {
        Set<String> here = new HashSet<>();
        for (String line : Files.readAllLines(Path.of("src/test/java/UsageTest.java"))) {
            here.add(line.strip());
        }
        boolean inBlock = false;
        int shown = 0;
        for (String line : readme()) {
            if (line.equals(BLOCK_BEGINS) || line.equals(BLOCK_ENDS)) {
                inBlock = line.equals(BLOCK_BEGINS);
                continue;
            }
            String code = line.split("//")[0].strip();
            if (inBlock && !code.isEmpty()) {
                shown++;
                Checks.due("README.md's line " + code + " is tried here", here.contains(code), true);
            }
        }
        Checks.due("README.md shows the class's use", shown > 0, true);
    }

    private static void readmeNamesEveryCall() throws IOException {
        String text = String.join("\n", readme());
        List<String> calls = List.of("new TurnedDiscs()", "begin()", "set(discs0, discs1, player)",
                "discs(player)", "player()", "moves()", "turns(square)", "over()", "play(square)", "back()",
                "made()", "difference()", "count(n)", "outcome()", "best()", "finish()", "border(player)",
                "safe(player)");
        for (String call : calls) {
            Checks.due("README.md's table tells of " + call, text.contains("| `" + call + "` |"), true);
        }
    }

    private static List<String> readme() throws IOException {
        return Files.readAllLines(Path.of("README.md"));
    }
}
