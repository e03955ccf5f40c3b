public final class Promise11ResyncTest {
    private static final Due due = new Due("Promise11ResyncTest");

    public static void main(String[] args) {
        refusals();
        leastExtentsFirst();
        finishes();
        copiesWhatTheSourceHolds();
        writesWhileSyncing();
        due.end();
    }

    private static void refusals() {
        WitnessedMirror x = new WitnessedMirror(50);
        due.is("resync without syncing", -1, x.resync(1));
        WitnessedMirror y = Mirrors.syncingNewDisk();
        due.is("resync(0)", -1, y.resync(0));
        due.is("resync(-1)", -1, y.resync(-1));
        due.is("resync(5)", -1, y.resync(5));
        due.is("resync(MAX)", -1, y.resync(Integer.MAX_VALUE));
        due.is("marks", 255, y.node(0, Mirrors.MARKS));
    }

    private static void leastExtentsFirst() {
        WitnessedMirror x = Mirrors.syncingNewDisk();
        due.is("resync(1)", 7, x.resync(1));
        due.is("marks", 254, x.node(0, Mirrors.MARKS));
        due.is("cached of the target", 4, x.node(1, Mirrors.CACHED));
        due.is("resync(2)", 5, x.resync(2));
        due.is("marks", 248, x.node(0, Mirrors.MARKS));
        due.is("block 9 held", 99, x.block(1, 9, false));
        due.is("block 9 stable", 0, x.block(1, 9, true));
        due.is("generation of the target", 0, x.node(1, Mirrors.GENERATION));
        due.is("resync(3)", 2, x.resync(3));
        due.is("source", 0, x.mirror(Mirrors.SOURCE));
        due.is("block 25 of the journal", 0, x.block(1, 25, false));
    }

    private static void finishes() {
        WitnessedMirror x = Mirrors.syncingNewDisk();
        x.resync(4);
        x.resync(3);
        due.is("ALONE before", 1, x.node(0, Mirrors.ALONE));
        due.is("more than are left", 0, x.resync(4));
        due.is("no syncing", 2, x.mirror(Mirrors.SOURCE));
        due.is("connected", 1, x.mirror(Mirrors.CONNECTED));
        for (int n = 0; n < 2; n++) {
            due.is("cached", 0, x.node(n, Mirrors.CACHED));
            due.is("marks", 0, x.node(n, Mirrors.MARKS));
            due.is("alone", 0, x.node(n, Mirrors.ALONE));
            due.is("generation", 2, x.node(n, Mirrors.GENERATION));
        }
        due.is("base of the source", 1, x.node(0, Mirrors.BASE));
        due.is("base of the target", 0, x.node(1, Mirrors.BASE));
        for (int block = 0; block < 32; block++) {
            due.is("block " + block, x.block(0, block, true), x.block(1, block, true));
        }
        due.is("block 10", 100, x.block(1, 10, true));
        due.is("resync again", -1, x.resync(1));
    }

    private static void copiesWhatTheSourceHolds() {
        WitnessedMirror x = Mirrors.withNode0Alone();
        x.line(true);
        x.connect();
        due.is("held on the source", 5, x.block(0, 2, false));
        due.is("not stable on the source", 0, x.block(0, 2, true));
        due.is("resync(1)", 1, x.resync(1));
        due.is("cached of the target", 4, x.node(1, Mirrors.CACHED));
        due.is("held on the target", 5, x.block(1, 2, false));
        due.is("source keeps its cache", 0, x.block(0, 2, true));
        due.is("resync(1)", 0, x.resync(1));
        due.is("mark of the journal", 1, x.block(1, 24, true));
        due.is("entry of the journal", 2, x.block(1, 25, true));
        due.is("value of the journal", 5, x.block(1, 26, true));
        due.is("stable on the target", 5, x.block(1, 2, true));
        due.is("stable on the source", 5, x.block(0, 2, true));
    }

    private static void writesWhileSyncing() {
        WitnessedMirror x = Mirrors.syncingNewDisk();
        x.resync(1);
        Mirrors.write(x, 0, 3);
        due.is("marks", 254, x.node(0, Mirrors.MARKS));
        due.is("the target gets it too", 3, x.block(1, 0, false));
        due.is("the FLUSH too", 1, x.block(1, 24, true));
        x.resync(4);
        x.resync(4);
        due.is("stable in the end", 3, x.block(1, 0, true));
    }
}
