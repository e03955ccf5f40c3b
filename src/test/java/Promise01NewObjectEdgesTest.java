public final class Promise01NewObjectEdgesTest extends Edges {
    public static void main(String[] args) {
        clamped();
        lengthsInUse();
        atFirst();
        end();
    }

    private static void clamped() {
        says("lease: LENGTH, clamped to 2 .. 50.");
        length(MIN, 2);
        length(-1, 2);
        length(0, 2);
        length(1, 2);
        length(2, 2);
        length(3, 3);
        length(49, 49);
        length(50, 50);
        length(51, 50);
        length(MAX, 50);
    }

    private static void length(int lease, int length) {
        edge("lease " + lease, () -> {
            WitnessedMirror x = new WitnessedMirror(lease);
            x.promote(0, false);
            is("end by promote", length, x.mirror(LEASE_END));
            x.tick(1);
            is("end by renew", 1 + length, x.renew());
        });
    }

    private static void lengthsInUse() {
        edge("the shortest lease lasts 2 units", () -> lasts(1, 2));
        edge("the longest lease lasts 50 units", () -> lasts(51, 50));
    }

    private static void lasts(int lease, int length) {
        WitnessedMirror x = new WitnessedMirror(lease);
        x.promote(0, false);
        x.tick(length - 1);
        is("PRIMARY in the last unit", 1, x.node(0, PRIMARY));
        x.tick(1);
        is("PRIMARY at the end", 0, x.node(0, PRIMARY));
    }

    private static void atFirst() {
        says("Block 0 .. 31 of a disk has a STABLE value (an int, 0 at first) and may have a CACHED value.");
        edge("all stable values are 0", () -> {
            WitnessedMirror x = new WitnessedMirror(10);
            for (int block = 0; block < 32; block++) {
                is("block " + block + " of 0", 0, x.block(0, block, true));
                is("block " + block + " of 1", 0, x.block(1, block, true));
            }
        });
        edge("none is cached", () -> ofBothNodes(CACHED, 0));
        says("A node is up or down (both up at first), and SECONDARY (at first) or PRIMARY; it has a GENERATION (1 at first), "
            + "a BASE (0 at first), is ALONE or not (at first not), and has MARKS, a set of extents (none at first).");
        edge("both are up", () -> ofBothNodes(UP, 1));
        edge("both are SECONDARY", () -> ofBothNodes(PRIMARY, 0));
        edge("GENERATION 1", () -> ofBothNodes(GENERATION, 1));
        edge("BASE 0", () -> ofBothNodes(BASE, 0));
        edge("not ALONE", () -> ofBothNodes(ALONE, 0));
        edge("no MARKS", () -> ofBothNodes(MARKS, 0));
        says("Its witness line is up (at first) or cut.");
        edge("both witness lines are up", () -> ofBothNodes(WITNESS_LINE, 1));
        says("The mirror line between the nodes is up (at first) or cut.");
        edge("the mirror line is up", () -> ofTheMirror(MIRROR_LINE, 1));
        says("The nodes are CONNECTED or not; they are at first.");
        edge("CONNECTED", () -> ofTheMirror(CONNECTED, 1));
        says("SYNCING is going on or not (at first not); if it is, one node is the SOURCE and the other the TARGET.");
        edge("no SYNCING", () -> ofTheMirror(SOURCE, NOBODY));
        edge("resync", () -> is("resync(1)", REFUSED, new WitnessedMirror(10).resync(1)));
        says("It has a generation (1 at first), a time (0 at first), and a LEASE: a holder (a node, or none at first) "
            + "and an end.");
        edge("the witness's generation is 1", () -> ofTheMirror(WITNESS_GENERATION, 1));
        edge("the time is 0", () -> is("tick(0)", 0, new WitnessedMirror(10).tick(0)));
        edge("the lease has no holder", () -> ofTheMirror(HOLDER, NOBODY));
        edge("the lease has no end to tell", () -> ofTheMirror(LEASE_END, 0));
        says("At most three entries (a cell and a value each), in order; empty at first.");
        edge("the batch is empty", () -> ofTheMirror(BATCH, 0));
    }

    private static void ofBothNodes(int what, int want) {
        WitnessedMirror x = new WitnessedMirror(10);
        is("node(0, " + what + ")", want, x.node(0, what));
        is("node(1, " + what + ")", want, x.node(1, what));
    }

    private static void ofTheMirror(int what, int want) {
        is("mirror(" + what + ")", want, new WitnessedMirror(10).mirror(what));
    }
}
