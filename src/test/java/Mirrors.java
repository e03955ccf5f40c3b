/** Mirrors brought to states that several tests begin with, and all that can be seen of one. */
final class Mirrors {
    static final int UP = 0;
    static final int PRIMARY = 1;
    static final int GENERATION = 2;
    static final int BASE = 3;
    static final int ALONE = 4;
    static final int MARKS = 5;
    static final int CACHED = 6;
    static final int WITNESS_LINE = 7;

    static final int CONNECTED = 0;
    static final int SOURCE = 1;
    static final int WITNESS_GENERATION = 2;
    static final int HOLDER = 3;
    static final int LEASE_END = 4;
    static final int BATCH = 5;
    static final int MIRROR_LINE = 6;

    private Mirrors() {
    }

    static WitnessedMirror withPrimary(int node) {
        WitnessedMirror x = new WitnessedMirror(50);
        x.promote(node, false);
        return x;
    }

    static int write(WitnessedMirror x, int cell, int value) {
        x.stage(cell, value);
        return x.commit(-1, 0);
    }

    /** Node 0 is the primary and has gone alone with one commit to cell 2: its marks are the extents 0 and 6. */
    static WitnessedMirror withNode0Alone() {
        WitnessedMirror x = withPrimary(0);
        x.line(false);
        write(x, 2, 5);
        return x;
    }

    /** Node 0 is the primary and the source; node 1 has a new disk, of which nothing is synced yet. */
    static WitnessedMirror syncingNewDisk() {
        WitnessedMirror x = withPrimary(0);
        write(x, 9, 99);
        x.crash(1, 0);
        x.swap(1);
        x.restart(1);
        write(x, 10, 100);
        x.connect();
        return x;
    }

    static String state(WitnessedMirror x) {
        StringBuilder all = new StringBuilder();
        for (int what = 0; what <= 6; what++) {
            all.append(x.mirror(what)).append(' ');
        }
        for (int node = 0; node < 2; node++) {
            all.append("| ");
            for (int what = 0; what <= 7; what++) {
                all.append(x.node(node, what)).append(' ');
            }
            for (int block = 0; block < 32; block++) {
                all.append(x.block(node, block, true)).append(':').append(x.block(node, block, false)).append(' ');
            }
        }
        for (int cell = 0; cell < 24; cell++) {
            all.append(x.cell(cell)).append(' ');
        }
        return all.toString();
    }
}
