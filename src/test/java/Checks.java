/** What every test uses: answers as texts, a count of the wrong ones, and the exit code. */
final class Checks {
    interface Call {
        long answer();
    }

    interface Act {
        void act();
    }

    interface Maker {
        TurnedDiscs make();
    }

    interface Use {
        void on(TurnedDiscs x);
    }

    static final String ARGUMENT = "throws.IllegalArgumentException";
    static final String STATE = "throws.IllegalStateException";
    static final String NO_ELEMENT = "throws.NoSuchElementException";

    private static int wrong = 0;
    private static int looked = 0;

    private static String sentence = "";
    private static int sentences = 0;

    private Checks() {
    }

    /**
     * The test of one sentence of the document, whose words stand before each wrong answer. An
     * exception where none is due ends this test alone, as one more wrong answer.
     */
    static void sentence(String words, Act test) {
        sentence = "[" + words + "] ";
        sentences++;
        int before = looked;
        due("the test as a whole", answer(test), "nothing");
        // A test that looked at nothing would hold whatever the program does.
        due("something was looked at", looked > before + 1, true);
        sentence = "";
    }

    /** The answer as a number, or throws.X where the call throws X. */
    static String answer(Call call) {
        try {
            return Long.toString(call.answer());
        } catch (RuntimeException e) {
            return "throws." + e.getClass().getSimpleName();
        }
    }

    static String answer(Act act) {
        try {
            act.act();
            return "nothing";
        } catch (RuntimeException e) {
            return "throws." + e.getClass().getSimpleName();
        }
    }

    static void due(String what, String got, String want) {
        looked++;
        if (!got.equals(want)) {
            wrong++;
            System.out.println(sentence + what + " answered " + got + ", due is " + want);
        }
    }

    static void due(String what, long got, long want) {
        due(what, Long.toString(got), Long.toString(want));
    }

    static void due(String what, boolean got, boolean want) {
        due(what, Boolean.toString(got), Boolean.toString(want));
    }

    static void argument(String what, Call call) {
        due(what, answer(call), ARGUMENT);
    }

    static void state(String what, Call call) {
        due(what, answer(call), STATE);
    }

    static void noElement(String what, Call call) {
        due(what, answer(call), NO_ELEMENT);
    }

    /**
     * The call throws what is due, and afterwards the object is like its twin, on which it was
     * not called, in all that can be seen and all the way back through the row.
     */
    static void refused(String what, String exception, Maker maker, Use use) {
        TurnedDiscs x = maker.make();
        TurnedDiscs twin = maker.make();
        due(what, answer(() -> use.on(x)), exception);
        due("what " + what + " leaves", wholeRow(x), wholeRow(twin));
    }

    static void refusedArgument(String what, Maker maker, Use use) {
        refused(what, ARGUMENT, maker, use);
    }

    static void refusedState(String what, Maker maker, Use use) {
        refused(what, STATE, maker, use);
    }

    static long bits(int... squares) {
        long bits = 0;
        for (int square : squares) {
            bits |= 1L << square;
        }
        return bits;
    }

    static TurnedDiscs at(long discs0, long discs1, int player) {
        TurnedDiscs x = new TurnedDiscs();
        x.set(discs0, discs1, player);
        return x;
    }

    static TurnedDiscs afterOneMove() {
        TurnedDiscs x = new TurnedDiscs();
        x.play(19);
        return x;
    }

    /** Player 0 has no move; player 1 has one, on 2, which ends the game. */
    static TurnedDiscs passDue() {
        return at(bits(1), bits(0), 0);
    }

    static TurnedDiscs afterAPass() {
        TurnedDiscs x = passDue();
        x.play(64);
        return x;
    }

    static int emptySquares(TurnedDiscs x) {
        return 64 - Long.bitCount(x.discs(0) | x.discs(1));
    }

    /** All that can be seen of an object without changing it or searching. */
    static String seen(TurnedDiscs x) {
        return x.discs(0) + " " + x.discs(1) + " " + x.player() + " " + x.made() + " " + x.moves();
    }

    /** What is seen now, and then with each step back until there is none. */
    private static String wholeRow(TurnedDiscs x) {
        StringBuilder text = new StringBuilder(seen(x));
        String step = answer(() -> x.back());
        for (int i = 0; i < 65 && !step.startsWith("throws"); i++) {
            text.append(" | ").append(step).append(": ").append(x.discs(0)).append(' ').append(x.discs(1))
                    .append(' ').append(x.player());
            step = answer(() -> x.back());
        }
        return text.append(" | ").append(step).append(' ').append(x.made()).toString();
    }

    static void end() {
        String about = sentences == 0 ? "" : " for " + sentences + " sentences";
        System.out.println(looked + " answers looked at" + about + ", " + wrong + " not as due");
        if (wrong != 0) {
            System.exit(1);
        }
    }
}
