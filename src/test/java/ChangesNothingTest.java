import java.util.Arrays;

/** Of two objects one is spared all calls that the other one refuses, and no answer tells them apart; each refusal is met. */
public final class ChangesNothingTest {
    private static final Due due = new Due("ChangesNothingTest");
    private static final int RUNS = 2000;
    private static final int[] REFUSALS = {-1, -2, -3, -4, -5, -6};
    private static final long NONE = -1000000000000L;

    private static final boolean[] met = new boolean[7];
    private static boolean metNone = false;

    public static void main(String[] args) {
        for (int seed = 0; seed < RUNS; seed++) {
            run(seed);
        }
        for (int refusal : REFUSALS) {
            due.is("answer " + refusal + " is met", 1, met[-refusal] ? 1 : 0);
        }
        due.is("answer NONE is met", 1, metNone ? 1 : 0);
        due.end();
    }

    private static void run(int seed) {
        WitnessedMirror asked = new WitnessedMirror(seed % 55);
        WitnessedMirror spared = new WitnessedMirror(seed % 55);
        RandomCalls calls = new RandomCalls(1000000L + seed);
        int length = 1 + seed % RandomCalls.CALLS_BEFORE_STATE;
        for (int i = 0; i < length; i++) {
            calls.draw();
            String call = calls.toString();
            long answer = calls.on(asked);
            if (isRefusal(answer, call)) {
                metNone |= answer == NONE;
                if (answer != NONE) {
                    met[(int) -answer] = true;
                }
            } else {
                due.is("seed " + seed + " call " + i + " " + call + " without the refused calls", answer, calls.on(spared));
            }
        }
        due.same("seed " + seed + " state", Mirrors.state(spared), Mirrors.state(asked));
    }

    /** A value that is read may look like a refusal: cell and block refuse by NONE alone. */
    private static boolean isRefusal(long answer, String call) {
        boolean longAnswer = call.startsWith("cell") || call.startsWith("block");
        return answer == NONE || !longAnswer && Arrays.stream(REFUSALS).anyMatch(code -> code == answer);
    }
}
