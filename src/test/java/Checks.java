/** What every test uses: answers as texts, a count of the wrong ones, and the exit code. */
final class Checks {
    interface Call {
        long answer();
    }

    interface Act {
        void act();
    }

    private static int wrong = 0;
    private static int looked = 0;

    private Checks() {
    }

    /** The answer as a number, or throws.X where the call throws X. */
    static String answer(Call call) {
        try {
            return Long.toString(call.answer());
        } catch (RuntimeException e) {
            return "throws." + e.getClass().getSimpleName();
        }
    }

    static String answer(Act act) {
        try {
            act.act();
            return "nothing";
        } catch (RuntimeException e) {
            return "throws." + e.getClass().getSimpleName();
        }
    }

    static void due(String what, String got, String want) {
        looked++;
        if (!got.equals(want)) {
            wrong++;
            System.out.println(what + " answered " + got + ", due is " + want);
        }
    }

    static void due(String what, long got, long want) {
        due(what, Long.toString(got), Long.toString(want));
    }

    static void due(String what, boolean got, boolean want) {
        due(what, Boolean.toString(got), Boolean.toString(want));
    }

    static void argument(String what, Call call) {
        due(what, answer(call), "throws.IllegalArgumentException");
    }

    static void state(String what, Call call) {
        due(what, answer(call), "throws.IllegalStateException");
    }

    static void noElement(String what, Call call) {
        due(what, answer(call), "throws.NoSuchElementException");
    }

    static long bits(int... squares) {
        long bits = 0;
        for (int square : squares) {
            bits |= 1L << square;
        }
        return bits;
    }

    /** All that can be seen of an object without changing it or searching. */
    static String seen(TurnedDiscs x) {
        return x.discs(0) + " " + x.discs(1) + " " + x.player() + " " + x.made() + " " + x.moves();
    }

    static void end() {
        System.out.println(looked + " answers looked at, " + wrong + " not as due");
        if (wrong != 0) {
            System.exit(1);
        }
    }
}
