public final class Promise05CrashTest {
    private static final Due due = new Due("Promise05CrashTest");

    public static void main(String[] args) {
        refusals();
        primaryCrashes();
        secondaryCrashes();
        keepChoosesBlocks();
        highBlocksAreKept();
        notConnectedMarksItselfAlone();
        marksAreAdded();
        duringSyncing();
        due.end();
    }

    private static void refusals() {
        WitnessedMirror x = new WitnessedMirror(50);
        due.is("crash(-1)", -1, x.crash(-1, 0));
        due.is("crash(2)", -1, x.crash(2, 0));
        due.is("crash(1)", 0, x.crash(1, 0));
        due.is("crash(1) again", -1, x.crash(1, 0));
        due.is("node 0 is up", 1, x.node(0, Mirrors.UP));
    }

    private static void primaryCrashes() {
        WitnessedMirror x = Mirrors.withPrimary(0);
        Mirrors.write(x, 5, 50);
        due.is("crash", 0, x.crash(0, 0));
        due.is("up", 0, x.node(0, Mirrors.UP));
        due.is("primary", 0, x.node(0, Mirrors.PRIMARY));
        due.is("cached", 0, x.node(0, Mirrors.CACHED));
        due.is("lost value", 0, x.block(0, 5, false));
        due.is("connected", 0, x.mirror(Mirrors.CONNECTED));
        due.is("the lease stays", 0, x.mirror(Mirrors.HOLDER));
        due.is("its end", 50, x.mirror(Mirrors.LEASE_END));
        due.is("marks", 2, x.node(0, Mirrors.MARKS));
        due.is("marks of the other", 2, x.node(1, Mirrors.MARKS));
        due.is("cached of the other", 1, x.node(1, Mirrors.CACHED));
        due.is("what the other holds", 50, x.block(1, 5, false));
        due.is("what the other has stable", 0, x.block(1, 5, true));
    }

    private static void secondaryCrashes() {
        WitnessedMirror x = Mirrors.withPrimary(0);
        Mirrors.write(x, 5, 50);
        due.is("crash", 0, x.crash(1, -1));
        due.is("kept value", 50, x.block(1, 5, true));
        due.is("primary stays", 1, x.node(0, Mirrors.PRIMARY));
        due.is("marks of the primary", 2, x.node(0, Mirrors.MARKS));
        due.is("cached of the primary", 1, x.node(0, Mirrors.CACHED));
        due.is("connected", 0, x.mirror(Mirrors.CONNECTED));
    }

    private static void keepChoosesBlocks() {
        WitnessedMirror x = Mirrors.withPrimary(0);
        x.stage(0, 1);
        x.stage(8, 2);
        x.stage(23, 3);
        x.commit(-1, 0);
        x.crash(0, 1 << 8 | 1 << 3);
        due.is("block 0", 0, x.block(0, 0, true));
        due.is("block 8", 2, x.block(0, 8, true));
        due.is("block 23", 0, x.block(0, 23, true));
        due.is("block 3, never cached", 0, x.block(0, 3, true));
        due.is("marks", 1 + 4 + 32, x.node(0, Mirrors.MARKS));
    }

    private static void highBlocksAreKept() {
        WitnessedMirror x = Mirrors.withPrimary(0);
        x.stage(1, 10);
        x.stage(2, 20);
        x.stage(3, 30);
        due.is("commit cut with the entries cached", -7, x.commit(9, 1 << 30 | 1 << 27));
        int[] journal = {0, 0, 0, 2, 0, 0, 30, 0};
        for (int i = 0; i < journal.length; i++) {
            due.is("block " + (24 + i), journal[i], x.block(0, 24 + i, true));
        }
        due.is("marks", 64 + 128, x.node(0, Mirrors.MARKS));
        due.is("marks of the other", 64 + 128, x.node(1, Mirrors.MARKS));
    }

    private static void notConnectedMarksItselfAlone() {
        WitnessedMirror x = Mirrors.withPrimary(0);
        Mirrors.write(x, 5, 50);
        x.line(false);
        x.crash(1, 0);
        due.is("marks", 2, x.node(1, Mirrors.MARKS));
        due.is("marks of the other", 0, x.node(0, Mirrors.MARKS));
        due.is("value of the other", 50, x.cell(5));
    }

    private static void marksAreAdded() {
        WitnessedMirror x = Mirrors.withNode0Alone();
        due.is("marks before", 65, x.node(0, Mirrors.MARKS));
        due.is("cached before", 1, x.node(0, Mirrors.CACHED));
        x.crash(0, 0);
        due.is("marks after", 65, x.node(0, Mirrors.MARKS));
        due.is("alone stays", 1, x.node(0, Mirrors.ALONE));
        due.is("generation stays", 2, x.node(0, Mirrors.GENERATION));
        due.is("base stays", 1, x.node(0, Mirrors.BASE));
    }

    private static void duringSyncing() {
        WitnessedMirror x = Mirrors.syncingNewDisk();
        x.resync(2);
        due.is("source", 0, x.mirror(Mirrors.SOURCE));
        x.crash(1, 0);
        due.is("no syncing", 2, x.mirror(Mirrors.SOURCE));
        due.is("source's marks and the target's", 255, x.node(0, Mirrors.MARKS));
        due.is("target's marks", 3, x.node(1, Mirrors.MARKS));
        due.is("target's generation", 0, x.node(1, Mirrors.GENERATION));
        due.is("resync", -1, x.resync(1));
    }
}
