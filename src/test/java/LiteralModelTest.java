/** Long runs of calls give the same answers, and leave the same state, as the document told a second time. */
public final class LiteralModelTest {
    private static final Due due = new Due("LiteralModelTest");
    private static final int RUNS = 6000;

    public static void main(String[] args) {
        for (int seed = 0; seed < RUNS; seed++) {
            if (seed % 4 == 0) {
                run(seed, RandomCalls.CALLS);
            } else {
                stateAfter(seed, 1 + seed % RandomCalls.CALLS_BEFORE_STATE);
            }
        }
        due.end();
    }

    private static void stateAfter(int seed, int calls) {
        WitnessedMirror x = new WitnessedMirror(lease(seed));
        LiteralMirror model = new LiteralMirror(lease(seed));
        if (agree(seed, calls, x, model)) {
            due.same("seed " + seed + " after " + calls + " calls", model.state(), Mirrors.state(x));
        }
    }

    private static void run(int seed, int calls) {
        agree(seed, calls, new WitnessedMirror(lease(seed)), new LiteralMirror(lease(seed)));
    }

    private static boolean agree(int seed, int length, WitnessedMirror x, LiteralMirror model) {
        RandomCalls calls = new RandomCalls(seed);
        for (int i = 0; i < length; i++) {
            calls.draw();
            long want = calls.on(model);
            long got = calls.on(x);
            due.is("seed " + seed + " call " + i + " " + calls, want, got);
            if (got != want) {
                return false;
            }
        }
        return true;
    }

    private static int lease(int seed) {
        return seed % 57 - 2;
    }
}
