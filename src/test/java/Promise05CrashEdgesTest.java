public final class Promise05CrashEdgesTest extends Edges {
    public static void main(String[] args) {
        refusals();
        marks();
        addedMarks();
        keep();
        downAndSecondary();
        end();
    }

    private static void refusals() {
        says("out of range answers REFUSED");
        for (int node : NO_NODES) {
            edge("crash(" + node + ")", () -> refused(REFUSED, () -> Mirrors.withBatch(1), x -> x.crash(node, -1)));
        }
        says("The node is down: REFUSED.");
        for (int node = 0; node < 2; node++) {
            int crashed = node;
            edge("node " + node + " is down", () -> refused(REFUSED, () -> {
                WitnessedMirror x = Mirrors.withPrimary(1 - crashed);
                Mirrors.write(x, 3, 30);
                x.crash(crashed, 0);
                return x;
            }, x -> x.crash(crashed, -1)));
            edge("node " + node + " is up, the other is down: not REFUSED", () -> {
                WitnessedMirror x = new WitnessedMirror(50);
                x.crash(1 - crashed, 0);
                is("crash", DONE, x.crash(crashed, 0));
            });
        }
        edge("down by a cut commit", () -> refused(REFUSED, () -> {
            WitnessedMirror x = Mirrors.withBatch(1);
            x.commit(4, 0);
            return x;
        }, x -> x.crash(0, 0)));
        edge("up again by restart: not REFUSED", () -> {
            WitnessedMirror x = new WitnessedMirror(50);
            x.crash(0, 0);
            x.restart(0);
            is("crash", DONE, x.crash(0, 0));
        });
    }

    private static void marks() {
        says("The extents of all blocks with cached values on its disk are added to its MARKS, and if the nodes are CONNECTED "
            + "to those of the other node too.");
        edge("no block has a cached value", () -> {
            WitnessedMirror x = Mirrors.withPrimary(0);
            x.crash(0, -1);
            marksAre(x, 0, 0);
        });
        edge("a cached value like the stable one marks its extent", () -> {
            WitnessedMirror x = Mirrors.withPrimary(0);
            Mirrors.write(x, 9, 0);
            x.crash(0, 0);
            marksAre(x, 4, 4);
        });
        edge("a kept value marks its extent like a lost one", () -> {
            WitnessedMirror x = Mirrors.withPrimary(0);
            Mirrors.write(x, 9, 90);
            x.crash(0, -1);
            marksAre(x, 4, 4);
        });
        edge("not CONNECTED: the MARKS of the other stay", () -> {
            WitnessedMirror x = Mirrors.withPrimary(0);
            Mirrors.write(x, 9, 90);
            x.line(false);
            x.crash(1, 0);
            marksAre(x, 0, 4);
        });
        edge("the cached values of the other disk do not count", () -> {
            WitnessedMirror x = Mirrors.withPrimary(0);
            Mirrors.write(x, 9, 90);
            x.crash(1, 0);
            x.restart(1);
            x.connect();
            is("cached of node 0", 1, x.node(0, CACHED));
            is("cached of node 1", 0, x.node(1, CACHED));
            x.crash(1, 0);
            marksAre(x, 4, 0);
        });
        edge("cached values from a resync count", () -> {
            WitnessedMirror x = Mirrors.syncingNewDisk();
            x.resync(4);
            x.crash(1, 0);
            marksAre(x, 255, 15);
        });
        edge("the highest extent counts", () -> {
            WitnessedMirror x = Mirrors.withBatch(3);
            is("commit, cut with the entries cached", CRASHED, x.commit(9, 0));
            marksAre(x, 64 + 128, 64 + 128);
        });
    }

    private static void addedMarks() {
        edge("they are added to the MARKS that it has", () -> {
            WitnessedMirror x = halfSynced();
            x.crash(0, 0);
            marksAre(x, 240 + 1, 1);
        });
        edge("they are added to the MARKS that the other has", () -> {
            WitnessedMirror x = halfSynced();
            x.crash(1, 0);
            marksAre(x, 240 + 1, 1);
        });
        edge("an extent that is in the MARKS of the other already stays there", () -> {
            WitnessedMirror x = Mirrors.syncingNewDisk();
            Mirrors.write(x, 23, 1);
            x.crash(1, 0);
            marksAre(x, 255, 32);
        });
        edge("an extent that is in the MARKS already stays there", () -> {
            WitnessedMirror x = Mirrors.withNode0Alone();
            x.crash(0, 0);
            marksAre(x, 64 + 1, 0);
        });
    }

    /** Node 0 is the SOURCE with the extents 4 to 7 left, and cell 0 is cached on both. */
    private static WitnessedMirror halfSynced() {
        WitnessedMirror x = Mirrors.syncingNewDisk();
        x.resync(4);
        Mirrors.write(x, 0, 1);
        is("marks before", 240, x.node(0, MARKS));
        return x;
    }

    private static void keep() {
        says("Each cached value of a block b of its disk becomes stable if bit b of keep is 1, else it is lost.");
        for (int cell = 0; cell < 24; cell++) {
            keepsCell(cell);
        }
        for (int block = 25; block <= 30; block++) {
            keepsEntry(block);
        }
        edge("bit 24, the mark's", () -> {
            WitnessedMirror x = Mirrors.withBatch(1);
            x.commit(7, 1 << 24);
            is("kept", 1, x.block(0, 24, true));
            WitnessedMirror y = Mirrors.withBatch(1);
            y.commit(7, ~(1 << 24));
            is("lost", 0, y.block(0, 24, true));
        });
        edge("the bit of a block without a cached value changes nothing", () -> {
            WitnessedMirror x = Mirrors.withPrimary(0);
            Mirrors.write(x, 9, 90);
            Mirrors.write(x, 10, 100);
            x.crash(0, 1 << 9);
            is("block 9 stays stable", 90, x.block(0, 9, true));
            is("block 10 is lost", 0, x.block(0, 10, true));
        });
        edge("bit 31, the sign, is that of no other block", () -> {
            WitnessedMirror x = Mirrors.withBatch(3);
            x.commit(9, MIN);
            for (int block = 0; block < 32; block++) {
                is("block " + block, 0, x.block(0, block, true));
            }
        });
        edge("none is cached any more, kept or lost", () -> {
            WitnessedMirror x = Mirrors.withBatch(3);
            x.commit(-1, 0);
            x.crash(0, 1);
            is("cached", 0, x.node(0, CACHED));
            is("kept", 10, x.block(0, 0, false));
            is("lost", 0, x.block(0, 5, false));
        });
        edge("the cached values of the other disk stay cached", () -> {
            WitnessedMirror x = Mirrors.withBatch(3);
            x.commit(-1, 0);
            x.crash(0, -1);
            is("cached", 3, x.node(1, CACHED));
            is("stable", 0, x.block(1, 5, true));
            is("held", 11, x.block(1, 5, false));
        });
    }

    private static void keepsCell(int cell) {
        edge("bit " + cell, () -> {
            for (int node = 0; node < 2; node++) {
                WitnessedMirror x = Mirrors.withPrimary(0);
                Mirrors.write(x, cell, 7);
                x.crash(node, 1 << cell);
                is("kept on node " + node, 7, x.block(node, cell, true));
                WitnessedMirror y = Mirrors.withPrimary(0);
                Mirrors.write(y, cell, 7);
                y.crash(node, ~(1 << cell));
                is("lost on node " + node, 0, y.block(node, cell, true));
            }
        });
    }

    /** The batch is 10 for cell 1, 20 for cell 2 and 30 for cell 3: no block of an entry is 0. */
    private static void keepsEntry(int block) {
        int[] written = {1, 10, 2, 20, 3, 30};
        edge("bit " + block, () -> {
            is("kept", written[block - 25], cutWithEntriesCached(1 << block).block(0, block, true));
            is("lost", 0, cutWithEntriesCached(~(1 << block)).block(0, block, true));
        });
    }

    private static WitnessedMirror cutWithEntriesCached(int keep) {
        WitnessedMirror x = Mirrors.withPrimary(0);
        for (int i = 1; i <= 3; i++) {
            x.stage(i, 10 * i);
        }
        is("commit", CRASHED, x.commit(9, keep));
        return x;
    }

    private static void downAndSecondary() {
        says("The node is down and SECONDARY. DISCONNECT. DONE.");
        edge("a crash of the PRIMARY", () -> {
            WitnessedMirror x = Mirrors.withPrimary(0);
            is("crash", DONE, x.crash(0, 0));
            is("up", 0, x.node(0, UP));
            is("primary", 0, x.node(0, PRIMARY));
            is("connected", 0, x.mirror(CONNECTED));
        });
        edge("a crash of the PRIMARY leaves it its lease, its GENERATION, its BASE and its being ALONE", () -> {
            WitnessedMirror x = Mirrors.withNode0Alone();
            x.crash(0, 0);
            is("holder", 0, x.mirror(HOLDER));
            is("end", 50, x.mirror(LEASE_END));
            is("generation", 2, x.node(0, GENERATION));
            is("base", 1, x.node(0, BASE));
            is("alone", 1, x.node(0, ALONE));
        });
        edge("a crash of the SECONDARY leaves the PRIMARY", () -> {
            WitnessedMirror x = Mirrors.withPrimary(0);
            is("crash", DONE, x.crash(1, 0));
            is("up", 0, x.node(1, UP));
            is("primary", 1, x.node(0, PRIMARY));
            is("connected", 0, x.mirror(CONNECTED));
        });
        edge("a crash leaves the mirror line and the witness lines", () -> {
            WitnessedMirror x = Mirrors.withPrimary(0);
            x.crash(0, 0);
            is("mirror line", 1, x.mirror(MIRROR_LINE));
            is("witness line", 1, x.node(0, WITNESS_LINE));
        });
        edge("no SYNCING goes on", () -> {
            WitnessedMirror x = Mirrors.syncingNewDisk();
            x.crash(1, 0);
            is("resync", REFUSED, x.resync(1));
            is("source", NOBODY, x.mirror(SOURCE));
        });
    }
}
