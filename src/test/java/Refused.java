import java.util.function.Supplier;

/** Acts that answer an ERROR: it is told once, and nothing else changes by them. */
final class Refused {
    interface Act {
        int on(AnswerPass x);
    }

    interface ActOf {
        int on(AnswerPass x, int v);
    }

    private static final int LEAST = Integer.MIN_VALUE;
    private static final int MOST = Integer.MAX_VALUE;
    /** No one of the three PEOPLE of Passes.rich(). */
    static final int[] NOBODY = {-1, 3, LEAST, MOST};
    static final int[] NO_CELL = {-1, 16, LEAST, MOST};
    static final int[] NO_SHEET = {-1, 4, LEAST, MOST};
    static final int[] NO_USE = {-1, 2, LEAST, MOST};
    static final int[] NOT_0_OR_1 = {-1, 2, LEAST, MOST};

    private Refused() {
    }

    /** Just below and just above what there is, and the ends of all ints. */
    static int[] outside(int least, int most) {
        return new int[] {least - 1, most + 1, LEAST, MOST};
    }

    static void is(Due due, long error, Supplier<AnswerPass> begins, Act act, String what) {
        AnswerPass untouched = begins.get();
        AnswerPass x = begins.get();
        due.is(error, act.on(x), what);
        for (int k = 1; k <= 6; k++) {
            long more = error == Due.LOW - k ? 1 : 0;
            due.is(untouched.told(k) + more, x.told(k), "told(" + k + ") behind " + what);
        }
        String want = Seen.of(untouched);
        String got = Seen.of(x);
        due.holds(want.equals(got), "nothing else changes by " + what + differing(want, got));
    }

    static void is(Due due, long error, Act act, String what) {
        is(due, error, Passes::rich, act, what);
    }

    static void beyond(Due due, ActOf act, int[] values, String what) {
        for (int v : values) {
            is(due, Due.BEYOND, x -> act.on(x, v), what + " " + v);
        }
    }

    private static String differing(String want, String got) {
        String[] due = want.split("\n");
        String[] seen = got.split("\n");
        for (int i = 0; i < Math.min(due.length, seen.length); i++) {
            if (!due[i].equals(seen[i])) {
                return " (" + seen[i] + ", not " + due[i] + ")";
            }
        }
        return "";
    }
}
