public final class Promise18MirrorEdgesTest extends Edges {
    public static void main(String[] args) {
        numbers();
        connection();
        witness();
        batch();
        end();
    }

    private static void numbers() {
        says("Another what: REFUSED.");
        for (int what : new int[] {MIN, -1, 7, MAX}) {
            edge("mirror(" + what + ")", () -> refused(REFUSED, () -> Mirrors.withBatch(1), x -> x.mirror(what)));
        }
    }

    private static void connection() {
        says("0: 1 if the nodes are CONNECTED, else 0;");
        edge("CONNECTED and not", () -> {
            WitnessedMirror x = new WitnessedMirror(50);
            is("at first", 1, x.mirror(CONNECTED));
            x.crash(0, 0);
            is("after a crash", 0, x.mirror(CONNECTED));
        });
        edge("CONNECTED while SYNCING", () -> is("connected", 1, Mirrors.syncingNewDisk().mirror(CONNECTED)));
        says("1 the SOURCE if SYNCING goes on, else 2;");
        edge("no SYNCING", () -> is("source", 2, new WitnessedMirror(50).mirror(SOURCE)));
        for (int node = 0; node < 2; node++) {
            int source = node;
            edge("node " + node + ", and 2 when it is FINISHED", () -> {
                WitnessedMirror x = Mirrors.withPrimary(source);
                x.line(false);
                Mirrors.write(x, 2, 5);
                x.line(true);
                is("before", 2, x.mirror(SOURCE));
                x.connect();
                is("while SYNCING", source, x.mirror(SOURCE));
                x.resync(2);
                is("FINISHED", 2, x.mirror(SOURCE));
            });
        }
        says("6: 1 if the mirror line is up, else 0.");
        edge("up and cut", () -> {
            WitnessedMirror x = new WitnessedMirror(50);
            is("up", 1, x.mirror(MIRROR_LINE));
            x.line(false);
            is("cut", 0, x.mirror(MIRROR_LINE));
        });
        edge("up, though not CONNECTED", () -> {
            WitnessedMirror x = new WitnessedMirror(50);
            x.crash(0, 0);
            is("up", 1, x.mirror(MIRROR_LINE));
        });
    }

    private static void witness() {
        says("2 the generation of the witness;");
        edge("it is that of the node that went ALONE last", () -> {
            WitnessedMirror x = Mirrors.withNode0Alone();
            is("once", 2, x.mirror(WITNESS_GENERATION));
            x.demote(0);
            x.promote(1, true);
            is("twice", 3, x.mirror(WITNESS_GENERATION));
        });
        edge("it outlives the disk of that node", () -> {
            WitnessedMirror x = Mirrors.withNode0Alone();
            x.crash(0, 0);
            x.swap(0);
            is("after a swap", 2, x.mirror(WITNESS_GENERATION));
        });
        says("3 the holder of the lease, 2 if there is none;");
        edge("none", () -> is("holder", 2, new WitnessedMirror(50).mirror(HOLDER)));
        edge("node 0", () -> is("holder", 0, Mirrors.withPrimary(0).mirror(HOLDER)));
        edge("node 1", () -> is("holder", 1, Mirrors.withPrimary(1).mirror(HOLDER)));
        edge("a node that crashed", () -> {
            WitnessedMirror x = Mirrors.withPrimary(1);
            x.crash(1, 0);
            is("holder", 1, x.mirror(HOLDER));
        });
        says("4 the end of the lease, 0 if there is no holder;");
        edge("no lease yet", () -> is("end", 0, new WitnessedMirror(50).mirror(LEASE_END)));
        edge("a lease", () -> is("end", 50, Mirrors.withPrimary(0).mirror(LEASE_END)));
        edge("a lease without a holder any more, by demote", () -> {
            WitnessedMirror x = Mirrors.withPrimary(0);
            x.demote(0);
            is("end", 0, x.mirror(LEASE_END));
        });
        edge("a lease without a holder any more, by tick", () -> {
            WitnessedMirror x = Mirrors.withPrimary(0);
            x.tick(50);
            is("end", 0, x.mirror(LEASE_END));
        });
        edge("a lease whose holder crashed", () -> {
            WitnessedMirror x = Mirrors.withPrimary(0);
            x.crash(0, 0);
            is("end", 50, x.mirror(LEASE_END));
        });
    }

    private static void batch() {
        says("5 the entries in the batch;");
        for (int entries = 0; entries <= 3; entries++) {
            int staged = entries;
            edge(entries + " entries", () -> is("batch", staged, Mirrors.withBatch(staged).mirror(BATCH)));
        }
        edge("three, and a fourth was refused", () -> {
            WitnessedMirror x = Mirrors.withBatch(3);
            x.stage(1, 1);
            is("batch", 3, x.mirror(BATCH));
        });
    }
}
