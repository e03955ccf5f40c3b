/** Long runs of calls give the same answers, and leave the same state, as the document told a second time. */
public final class LiteralModelTest {
    private static final Due due = new Due("LiteralModelTest");
    private static final int RUNS = 400;

    public static void main(String[] args) {
        for (int seed = 0; seed < RUNS; seed++) {
            run(seed);
        }
        due.end();
    }

    private static void run(int seed) {
        int lease = seed % 55;
        WitnessedMirror x = new WitnessedMirror(lease);
        LiteralMirror model = new LiteralMirror(lease);
        RandomCalls calls = new RandomCalls(seed);
        for (int i = 0; i < RandomCalls.CALLS; i++) {
            int[] answers = calls.next(x, model);
            String where = "seed " + seed + " call " + i + " " + calls.call;
            String want = model.state();
            String got = Mirrors.state(x);
            due.is(where, answers[1], answers[0]);
            due.same(where, want, got);
            if (answers[0] != answers[1] || !want.equals(got)) {
                return;
            }
        }
    }
}
