public final class Promise13DemoteEdgesTest extends Edges {
    public static void main(String[] args) {
        says("out of range answers REFUSED");
        for (int node : NO_NODES) {
            edge("demote(" + node + ")", () -> refused(REFUSED, () -> Mirrors.withBatch(2), x -> x.demote(node)));
        }
        refusals();
        done();
        end();
    }

    private static void refusals() {
        says("The node is not PRIMARY: REFUSED.");
        for (int node = 0; node < 2; node++) {
            int asked = node;
            edge("no node is: node " + node, () -> refused(REFUSED, () -> new WitnessedMirror(50), x -> x.demote(asked)));
            edge("the other one is: node " + node, () -> refused(REFUSED, () -> {
                WitnessedMirror x = Mirrors.withPrimary(1 - asked);
                x.stage(1, 1);
                return x;
            }, x -> x.demote(asked)));
            edge("it was demoted: node " + node, () -> refused(REFUSED, () -> {
                WitnessedMirror x = Mirrors.withPrimary(asked);
                x.demote(asked);
                return x;
            }, x -> x.demote(asked)));
        }
        edge("it crashed, though it is the holder of the lease", () -> refused(REFUSED, () -> {
            WitnessedMirror x = Mirrors.withPrimary(0);
            x.crash(0, 0);
            return x;
        }, x -> x.demote(0)));
        edge("its lease ended", () -> refused(REFUSED, () -> {
            WitnessedMirror x = Mirrors.withPrimary(0);
            x.tick(50);
            return x;
        }, x -> x.demote(0)));
    }

    private static void done() {
        says("It is SECONDARY, and if it is the holder of the lease there is no holder any more. DONE.");
        for (int node = 0; node < 2; node++) {
            int asked = node;
            edge("node " + node, () -> {
                WitnessedMirror x = Mirrors.withPrimary(asked);
                is("demote", DONE, x.demote(asked));
                is("primary", 0, x.node(asked, PRIMARY));
                is("holder", NOBODY, x.mirror(HOLDER));
                is("end", 0, x.mirror(LEASE_END));
            });
        }
        edge("with its witness line cut", () -> {
            WitnessedMirror x = Mirrors.withPrimary(0);
            x.witnessLine(0, false);
            is("demote", DONE, x.demote(0));
            is("holder", NOBODY, x.mirror(HOLDER));
        });
        edge("it stays up, CONNECTED, ALONE and of its GENERATION, and its cached values stay", () -> {
            WitnessedMirror x = Mirrors.syncingNewDisk();
            x.demote(0);
            nodeIs(x, 0, new int[] {1, 0, 2, 1, 1, 255, 1, 1});
            is("connected", 1, x.mirror(CONNECTED));
            is("source", 0, x.mirror(SOURCE));
        });
    }
}
