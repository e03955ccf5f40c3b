/** Mirrors brought to states that several tests begin with, and all that can be seen of one. */
final class Mirrors implements Whats {
    static final int CALLS_OF_STATE = 175;

    private Mirrors() {
    }

    static WitnessedMirror withPrimary(int node) {
        WitnessedMirror x = new WitnessedMirror(50);
        x.promote(node, false);
        return x;
    }

    static int write(WitnessedMirror x, int cell, int value) {
        x.stage(cell, value);
        return x.commit(-1, 0);
    }

    /** Node 0 is the primary and has gone alone with one commit to cell 2: its marks are the extents 0 and 6. */
    static WitnessedMirror withNode0Alone() {
        WitnessedMirror x = withPrimary(0);
        x.line(false);
        write(x, 2, 5);
        return x;
    }

    /** Node 0 is the primary and the source; node 1 has a new disk, of which nothing is synced yet. */
    static WitnessedMirror syncingNewDisk() {
        WitnessedMirror x = withPrimary(0);
        write(x, 9, 99);
        x.crash(1, 0);
        x.swap(1);
        x.restart(1);
        write(x, 10, 100);
        x.connect();
        return x;
    }

    /** Node 0 is the primary and the source, and not alone: node 1 crashed with cell 5 cached, and extent 1 is to be synced. */
    static WitnessedMirror syncingNotAlone() {
        WitnessedMirror x = withPrimary(0);
        write(x, 5, 50);
        x.crash(1, 0);
        x.restart(1);
        x.connect();
        return x;
    }

    /** Both nodes are up, not connected, and have new disks. */
    static WitnessedMirror withTwoNewDisks() {
        WitnessedMirror x = new WitnessedMirror(50);
        for (int node = 0; node < 2; node++) {
            x.crash(node, 0);
            x.swap(node);
            x.restart(node);
        }
        return x;
    }

    /** Node 0 is the primary, with a batch of one, and may not go alone. */
    static WitnessedMirror frozen() {
        WitnessedMirror x = withPrimary(0);
        x.stage(2, 5);
        x.line(false);
        x.witnessLine(0, false);
        return x;
    }

    /** Node 0 is the primary, with as many entries as are given: value 10 + i for cell 5 i. */
    static WitnessedMirror withBatch(int entries) {
        WitnessedMirror x = withPrimary(0);
        for (int i = 0; i < entries; i++) {
            x.stage(5 * i, 10 + i);
        }
        return x;
    }

    /**
     * All that can be found out about a mirror, what is in its batch and its time too. The batch is written for that:
     * nothing is asked of the mirror after this.
     */
    static String everything(WitnessedMirror x) {
        StringBuilder all = new StringBuilder(state(x));
        all.append("| time ").append(x.tick(0));
        x.witnessLine(0, true);
        x.witnessLine(1, true);
        all.append(" renew ").append(x.renew());
        all.append(" commit ").append(x.commit(-1, 0));
        all.append(" then ").append(state(x));
        return all.toString();
    }

    /** What a mirror tells of itself, by CALLS_OF_STATE calls. */
    static String state(WitnessedMirror x) {
        StringBuilder all = new StringBuilder();
        for (int what = 0; what <= 6; what++) {
            all.append(x.mirror(what)).append(' ');
        }
        for (int node = 0; node < 2; node++) {
            all.append("| ");
            for (int what = 0; what <= 7; what++) {
                all.append(x.node(node, what)).append(' ');
            }
            for (int block = 0; block < 32; block++) {
                all.append(x.block(node, block, true)).append(':').append(x.block(node, block, false)).append(' ');
            }
        }
        for (int cell = 0; cell < 24; cell++) {
            all.append(x.cell(cell)).append(' ');
        }
        return all.toString();
    }
}
