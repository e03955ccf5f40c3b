import java.util.Random;
import java.util.Set;
import java.util.TreeSet;

/**
 * The first sentence of the document, over seeded runs of crashes, cut lines, new disks, resyncs and changes of the primary.
 * No promise says it by itself: it holds only if the promises fit together. Every batch gives three cells of three extents
 * the same number, so that a batch that was written in part shows.
 */
public final class WhatItIsTest {
    private static final Due due = new Due("WhatItIsTest");
    private static final int RUNS = 300000;
    private static final int[] CELLS = {1, 9, 22};
    private static final int CALLS_OF_A_ROUND = 10;
    private static final int CALLS_OF_BOTH_DISKS = 2 + 4 * 32;
    private static final int MOST_ROUNDS = (RandomCalls.CALLS - CALLS_OF_BOTH_DISKS) / CALLS_OF_A_ROUND;

    private static int looksAtPrimary = 0;
    private static int looksAtMirrors = 0;
    private static int wholeAfterCut = 0;

    private final String name;
    private final Random random;
    /** By force a node may be the primary that has missed batches, so that what was written last may be gone. */
    private final boolean forcing;
    private final WitnessedMirror x;
    private long nextNumber = 1;
    /** What the cells got by the last commit that was done, or were seen to hold since. */
    private long lastNumber = 0;
    /** What they may have got since then, by commits that were cut. */
    private final Set<Long> cutNumbers = new TreeSet<>();

    private WhatItIsTest(int seed) {
        name = "seed " + seed;
        random = new Random(3000000L + seed);
        forcing = seed % 2 == 0;
        x = new WitnessedMirror(2 + random.nextInt(49));
    }

    public static void main(String[] args) {
        for (int seed = 0; seed < RUNS; seed++) {
            new WhatItIsTest(seed).run();
        }
        isOften("a primary", looksAtPrimary);
        isOften("nodes that are connected and not syncing", looksAtMirrors);
        isOften("a batch that is whole though its commit was cut", wholeAfterCut);
        due.end();
    }

    private static void isOften(String what, int times) {
        due.is(what + " is seen at least 100 times", 1, times >= 100 ? 1 : 0);
    }

    private void run() {
        int rounds = 1 + random.nextInt(MOST_ROUNDS);
        for (int round = 0; round < rounds; round++) {
            if (random.nextInt(4) == 0) {
                writeBatch();
            } else {
                disturb();
            }
            lookAtPrimary(name + " round " + round);
        }
        lookAtBothDisks();
    }

    private void writeBatch() {
        if (x.mirror(Mirrors.BATCH) == 0) {
            int first = random.nextInt(3);
            for (int i = 0; i < 3; i++) {
                x.stage(CELLS[(first + i) % 3], (int) nextNumber);
            }
        }
        int answer = x.commit(random.nextInt(3) == 0 ? random.nextInt(16) : -1, drawKeep());
        if (answer == WitnessedMirror.DONE) {
            lastNumber = nextNumber++;
            cutNumbers.clear();
        } else if (answer == WitnessedMirror.CRASHED) {
            cutNumbers.add(nextNumber++);
        }
    }

    private int drawKeep() {
        switch (random.nextInt(4)) {
            case 0: return 0;
            case 1: return -1;
            default: return random.nextInt();
        }
    }

    private void disturb() {
        int node = random.nextInt(2);
        switch (random.nextInt(40)) {
            case 0 -> x.swap(node);
            case 1, 2, 3 -> x.crash(node, drawKeep());
            case 4, 5, 6, 7, 8, 9, 10 -> x.restart(node);
            case 11, 12, 13 -> x.line(random.nextInt(4) != 0);
            case 14 -> x.witnessLine(node, random.nextInt(4) != 0);
            case 15, 16, 17, 18, 19 -> x.connect();
            case 20, 21, 22, 23, 24 -> x.resync(1 + random.nextInt(4));
            case 25 -> x.demote(node);
            case 26, 27 -> x.tick(random.nextInt(60));
            case 28 -> x.renew();
            default -> x.promote(node, forcing && random.nextBoolean());
        }
    }

    private void lookAtPrimary(String where) {
        int primaries = x.node(0, Mirrors.PRIMARY) + x.node(1, Mirrors.PRIMARY);
        due.is(where + ": one primary at a time, not " + primaries, 1, primaries < 2 ? 1 : 0);
        if (primaries == 0) {
            return;
        }
        looksAtPrimary++;
        long held = x.cell(CELLS[0]);
        due.is(where + ": cell " + CELLS[1] + ", as cell " + CELLS[0], held, x.cell(CELLS[1]));
        due.is(where + ": cell " + CELLS[2] + ", as cell " + CELLS[0], held, x.cell(CELLS[2]));
        if (!forcing) {
            nothingIsLost(where, held);
        }
    }

    /** What a primary was seen to hold, a later one holds too, until the next batch. */
    private void nothingIsLost(String where, long held) {
        boolean cutButWhole = cutNumbers.contains(held);
        due.is(where + ": the cells hold " + held + ", which is " + lastNumber + " or of " + cutNumbers, 1,
            held == lastNumber || cutButWhole ? 1 : 0);
        wholeAfterCut += cutButWhole ? 1 : 0;
        lastNumber = held;
        cutNumbers.clear();
    }

    private void lookAtBothDisks() {
        if (x.mirror(Mirrors.CONNECTED) == 0 || x.mirror(Mirrors.SOURCE) != 2) {
            return;
        }
        looksAtMirrors++;
        for (int block = 0; block < 32; block++) {
            due.is(name + ": stable block " + block + " of both", x.block(0, block, true), x.block(1, block, true));
            due.is(name + ": block " + block + " of both", x.block(0, block, false), x.block(1, block, false));
        }
    }
}
