/** A call that answers REFUSED, FULL, FROZEN, HELD, OUTDATED or UNFIT changes nothing; each of them is met. */
public final class ChangesNothingTest {
    private static final Due due = new Due("ChangesNothingTest");
    private static final int RUNS = 200;

    public static void main(String[] args) {
        int[] met = new int[8];
        for (int seed = 1000; seed < 1000 + RUNS; seed++) {
            WitnessedMirror x = new WitnessedMirror(seed % 20);
            RandomCalls calls = new RandomCalls(seed);
            for (int i = 0; i < RandomCalls.CALLS; i++) {
                String before = Mirrors.state(x);
                int answer = calls.next(x, null)[0];
                if (answer < 0) {
                    met[-answer]++;
                }
                if (answer < 0 && answer != WitnessedMirror.CRASHED) {
                    due.same("seed " + seed + " call " + i + " " + calls.call, before, Mirrors.state(x));
                }
            }
        }
        for (int code = 1; code < met.length; code++) {
            due.is("answer " + -code + " is met", 1, met[code] > 0 ? 1 : 0);
        }
        due.end();
    }
}
