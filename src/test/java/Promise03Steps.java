import java.util.Arrays;

/** A commit of one, two and three entries is cut at every step, and both disks are compared with the steps written out. */
final class Promise03Steps extends Edges {
    private static final int[] FLUSH = {};
    private static final int[] NO_CHANGE = {};

    /** Entries: 40 for cell 4, then 90 for cell 9, then 41 for cell 4. */
    private static final int[][] ENTRIES = {{4, 40}, {9, 90}, {4, 41}};

    private static final int[][] STEPS_OF_1 = {
        FLUSH, {24, 0}, FLUSH, {25, 4}, {26, 40}, FLUSH, {24, 1}, FLUSH, {4, 40}, NO_CHANGE};
    private static final int[][] STEPS_OF_2 = {
        FLUSH, {24, 0}, FLUSH, {25, 4}, {26, 40}, {27, 9}, {28, 90}, FLUSH, {24, 2}, FLUSH, {4, 40}, {9, 90}, NO_CHANGE};
    private static final int[][] STEPS_OF_3 = {
        FLUSH, {24, 0}, FLUSH, {25, 4}, {26, 40}, {27, 9}, {28, 90}, {29, 4}, {30, 41}, FLUSH, {24, 3}, FLUSH,
        {4, 40}, {9, 90}, {4, 41}, NO_CHANGE};

    private final int[] stable = new int[32];
    private final int[] held = new int[32];
    private final boolean[] cached = new boolean[32];

    /** The disks as an earlier commit of 5 for cell 0 left them. */
    private Promise03Steps() {
        write(24, 1);
        write(26, 5);
        flush();
        write(0, 5);
    }

    static void everyCut() {
        says("Then these 3 n + 7 STEPS: FLUSH; WRITE the mark 0; FLUSH; for each entry i of 0 .. n - 1 WRITE its cell to block "
            + "25 + 2 i, then WRITE its value to block 26 + 2 i; FLUSH; WRITE the mark n; FLUSH; for each entry in order WRITE "
            + "its value to its cell's block; and as the last one no change at all.");
        int[][][] all = {STEPS_OF_1, STEPS_OF_2, STEPS_OF_3};
        for (int n = 1; n <= 3; n++) {
            int[][] steps = all[n - 1];
            for (int cut = 0; cut < steps.length; cut++) {
                cutAt(n, steps, cut, 0);
                cutAt(n, steps, cut, -1);
            }
            cutAt(n, steps, steps.length, 0);
        }
    }

    private static void cutAt(int n, int[][] steps, int cut, int keep) {
        edge("n is " + n + ", " + cut + " steps are done, keep is " + keep, () -> {
            WitnessedMirror x = Mirrors.withPrimary(0);
            Mirrors.write(x, 0, 5);
            for (int i = 0; i < n; i++) {
                x.stage(ENTRIES[i][0], ENTRIES[i][1]);
            }
            boolean crashes = cut < steps.length;
            is("commit", crashes ? CRASHED : DONE, x.commit(cut, keep));
            Promise03Steps own = new Promise03Steps();
            Promise03Steps other = new Promise03Steps();
            for (int i = 0; i < cut; i++) {
                own.step(steps[i]);
                other.step(steps[i]);
            }
            if (crashes) {
                own.crash(keep);
            }
            own.isDisk(x, 0);
            other.isDisk(x, 1);
        });
    }

    private void step(int[] step) {
        if (step == FLUSH) {
            flush();
        } else if (step != NO_CHANGE) {
            write(step[0], step[1]);
        }
    }

    private void write(int block, int value) {
        held[block] = value;
        cached[block] = true;
    }

    private void flush() {
        System.arraycopy(held, 0, stable, 0, 32);
        Arrays.fill(cached, false);
    }

    private void crash(int keep) {
        if (keep == -1) {
            flush();
        }
        System.arraycopy(stable, 0, held, 0, 32);
        Arrays.fill(cached, false);
    }

    private void isDisk(WitnessedMirror x, int node) {
        int count = 0;
        for (int block = 0; block < 32; block++) {
            is("stable block " + block + " of node " + node, stable[block], x.block(node, block, true));
            is("held block " + block + " of node " + node, held[block], x.block(node, block, false));
            count += cached[block] ? 1 : 0;
        }
        is("cached of node " + node, count, x.node(node, CACHED));
    }
}
