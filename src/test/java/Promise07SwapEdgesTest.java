public final class Promise07SwapEdgesTest extends Edges {
    public static void main(String[] args) {
        refusals();
        newDisk();
        nothingElse();
        end();
    }

    private static void refusals() {
        says("out of range answers REFUSED");
        for (int node : NO_NODES) {
            edge("swap(" + node + ")", () -> refused(REFUSED, Promise07SwapEdgesTest::node0Down, x -> x.swap(node)));
        }
        says("The node is up: REFUSED.");
        for (int node = 0; node < 2; node++) {
            int asked = node;
            edge("node " + node + " is up", () -> refused(REFUSED, Mirrors::withNode0Alone, x -> x.swap(asked)));
        }
        edge("node 1 is up, the other is down", () -> refused(REFUSED, Promise07SwapEdgesTest::node0Down, x -> x.swap(1)));
        edge("node 0 is up again", () -> refused(REFUSED, () -> {
            WitnessedMirror x = node0Down();
            x.restart(0);
            return x;
        }, x -> x.swap(0)));
    }

    private static void newDisk() {
        says("It gets a new disk: all stable values 0, none cached; GENERATION 0, BASE 0, not ALONE, no MARKS. DONE.");
        edge("all stable values are 0, and none is cached", () -> {
            WitnessedMirror x = node0Down();
            is("block 2 before", 5, x.block(0, 2, true));
            is("block 30 before", 30, x.block(0, 30, true));
            is("swap", DONE, x.swap(0));
            for (int block = 0; block < 32; block++) {
                is("stable block " + block, 0, x.block(0, block, true));
                is("held block " + block, 0, x.block(0, block, false));
            }
            is("cached", 0, x.node(0, CACHED));
        });
        changes("GENERATION", GENERATION, 2);
        changes("BASE", BASE, 1);
        changes("ALONE", ALONE, 1);
        changes("MARKS", MARKS, 64 + 128 + 1);
        edge("a new disk is swapped too", () -> {
            WitnessedMirror x = node0Down();
            x.swap(0);
            is("swap", DONE, x.swap(0));
            is("generation", 0, x.node(0, GENERATION));
        });
        edge("a new disk takes values again", () -> {
            WitnessedMirror x = Mirrors.syncingNewDisk();
            x.resync(4);
            x.resync(4);
            is("block 9", 99, x.block(1, 9, true));
        });
    }

    private static void changes(String name, int what, int before) {
        edge(name + " becomes 0", () -> {
            WitnessedMirror x = node0Down();
            is("before", before, x.node(0, what));
            x.swap(0);
            is("after", 0, x.node(0, what));
        });
    }

    private static void nothingElse() {
        edge("it stays down", () -> {
            WitnessedMirror x = node0Down();
            x.swap(0);
            is("up", 0, x.node(0, UP));
        });
        edge("the other node and its disk stay", () -> {
            WitnessedMirror x = Mirrors.withPrimary(0);
            Mirrors.write(x, 9, 90);
            x.crash(0, 0);
            x.swap(0);
            is("held", 90, x.block(1, 9, false));
            nodeIs(x, 1, new int[] {1, 0, 1, 0, 0, 4, 1, 1});
        });
        edge("the witness, the lease and the lines stay", () -> {
            WitnessedMirror x = node0Down();
            x.witnessLine(0, false);
            x.swap(0);
            is("witness's generation", 2, x.mirror(WITNESS_GENERATION));
            is("holder", 0, x.mirror(HOLDER));
            is("end", 50, x.mirror(LEASE_END));
            is("mirror line", 0, x.mirror(MIRROR_LINE));
            is("witness line", 0, x.node(0, WITNESS_LINE));
        });
    }

    /** Node 0 wrote three entries alone, and is down with all of them stable. */
    private static WitnessedMirror node0Down() {
        WitnessedMirror x = Mirrors.withPrimary(0);
        x.line(false);
        x.stage(1, 10);
        x.stage(2, 5);
        x.stage(3, 30);
        x.commit(-1, 0);
        x.crash(0, -1);
        return x;
    }
}
