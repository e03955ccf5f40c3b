/**
 * Three cases of promise 12 are named by the document, but no run of calls comes to them: a mark above 3, an entry of the
 * journal that is no cell number, and a promote that finds the other node PRIMARY. So they can't be tested by calls; what
 * keeps runs from them is tested instead. If this fails, they can be reached and need cases of their own.
 */
public final class UnreachedTest {
    private static final Due due = new Due("UnreachedTest");
    private static final int RUNS = 1000;
    private static final int CALLS_OF_A_LOOK = 21;
    private static final int CALLS_BETWEEN = 10;

    public static void main(String[] args) {
        for (int seed = 0; seed < RUNS; seed++) {
            run(seed);
        }
        due.end();
    }

    private static void run(int seed) {
        WitnessedMirror x = new WitnessedMirror(seed % 55);
        RandomCalls calls = new RandomCalls(2000000L + seed);
        int looks = RandomCalls.CALLS / (CALLS_OF_A_LOOK + CALLS_BETWEEN);
        for (int look = 0; look < looks; look++) {
            for (int i = 0; i < CALLS_BETWEEN; i++) {
                calls.draw();
                calls.on(x);
            }
            String where = "seed " + seed + " look " + look;
            journalIsWhole(x, where);
            primaryHoldsTheLease(x, where);
        }
    }

    private static void journalIsWhole(WitnessedMirror x, String where) {
        for (int node = 0; node < 2; node++) {
            for (int time = 0; time < 2; time++) {
                boolean stable = time == 0;
                isBelow(where + " mark", 4, x.block(node, 24, stable));
                for (int i = 0; i < 3; i++) {
                    isBelow(where + " cell number of entry " + i, 24, x.block(node, 25 + 2 * i, stable));
                }
            }
        }
    }

    private static void primaryHoldsTheLease(WitnessedMirror x, String where) {
        int holder = x.mirror(Mirrors.HOLDER);
        for (int node = 0; node < 2; node++) {
            if (x.node(node, Mirrors.PRIMARY) == 1) {
                due.is(where + " holder of PRIMARY " + node, node, holder);
            }
        }
        if (holder != 2) {
            isBelow(where + " the lease is running: time", x.mirror(Mirrors.LEASE_END), x.tick(0));
        }
    }

    private static void isBelow(String what, int bound, long got) {
        due.is(what + " " + got + " is of 0 .. " + (bound - 1), 1, got >= 0 && got < bound ? 1 : 0);
    }
}
