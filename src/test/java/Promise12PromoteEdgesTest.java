public final class Promise12PromoteEdgesTest extends Edges {
    public static void main(String[] args) {
        refusals();
        held();
        unfit();
        outdated();
        primaryAndLease();
        goesAlone();
        doesNotGoAlone();
        flush();
        journal();
        answers();
        end();
    }

    private static void refusals() {
        says("out of range answers REFUSED");
        for (int node : NO_NODES) {
            edge("promote(" + node + ")", () -> refused(REFUSED, () -> new WitnessedMirror(50), x -> x.promote(node, true)));
        }
        says("It is down, PRIMARY, or its witness line is cut: REFUSED.");
        for (int node = 0; node < 2; node++) {
            int asked = node;
            edge("node " + node + " is down", () -> refused(REFUSED, () -> {
                WitnessedMirror x = new WitnessedMirror(50);
                x.crash(asked, 0);
                return x;
            }, x -> x.promote(asked, true)));
            edge("node " + node + " is PRIMARY", () -> refused(REFUSED, () -> {
                WitnessedMirror x = Mirrors.withPrimary(asked);
                x.stage(1, 1);
                x.tick(3);
                return x;
            }, x -> x.promote(asked, true)));
            edge("the witness line of node " + node + " is cut", () -> refused(REFUSED, () -> {
                WitnessedMirror x = new WitnessedMirror(50);
                x.witnessLine(asked, false);
                return x;
            }, x -> x.promote(asked, true)));
            edge("the other one is down: node " + node + " is not REFUSED", () -> {
                WitnessedMirror x = new WitnessedMirror(50);
                x.crash(1 - asked, 0);
                is("promote", 0, x.promote(asked, false));
            });
            edge("the witness line of the other one is cut: node " + node + " is not REFUSED", () -> {
                WitnessedMirror x = new WitnessedMirror(50);
                x.witnessLine(1 - asked, false);
                is("promote", 0, x.promote(asked, false));
            });
        }
    }

    private static void held() {
        says("A lease with the other node as holder is running: HELD.");
        edge("it has just begun", () -> refused(HELD, () -> Mirrors.withBatch(2), x -> x.promote(1, false)));
        edge("force does not help", () -> refused(HELD, () -> Mirrors.withBatch(2), x -> x.promote(1, true)));
        edge("it is in its last unit", () -> refused(HELD, () -> {
            WitnessedMirror x = Mirrors.withBatch(2);
            x.tick(49);
            return x;
        }, x -> x.promote(1, false)));
        edge("it has ended: not HELD", () -> {
            WitnessedMirror x = Mirrors.withPrimary(0);
            x.tick(50);
            is("promote", 0, x.promote(1, false));
        });
        edge("it has been renewed in its last unit", () -> refused(HELD, () -> {
            WitnessedMirror x = Mirrors.withPrimary(0);
            x.tick(49);
            x.renew();
            x.tick(49);
            return x;
        }, x -> x.promote(1, false)));
        edge("its holder is down", () -> refused(HELD, () -> {
            WitnessedMirror x = Mirrors.withPrimary(0);
            x.crash(0, 0);
            return x;
        }, x -> x.promote(1, true)));
        edge("its holder was demoted: not HELD", () -> {
            WitnessedMirror x = Mirrors.withPrimary(0);
            x.demote(0);
            is("promote", 0, x.promote(1, false));
        });
        edge("node 1 is the holder", () -> refused(HELD, () -> Mirrors.withPrimary(1), x -> x.promote(0, true)));
        edge("the node itself is the holder: not HELD", () -> {
            WitnessedMirror x = Mirrors.withPrimary(0);
            x.crash(0, 0);
            x.restart(0);
            is("promote", 0, x.promote(0, false));
        });
    }

    private static void unfit() {
        says("Its GENERATION is 0: UNFIT.");
        edge("a new disk", () -> refused(UNFIT, Mirrors::withTwoNewDisks, x -> x.promote(1, false)));
        edge("force does not help", () -> refused(UNFIT, Mirrors::withTwoNewDisks, x -> x.promote(1, true)));
        edge("the TARGET of a SYNCING", () -> refused(UNFIT, () -> {
            WitnessedMirror x = Mirrors.syncingNewDisk();
            x.demote(0);
            x.resync(4);
            x.resync(3);
            return x;
        }, x -> x.promote(1, true)));
        edge("the TARGET when it is FINISHED: not UNFIT", () -> {
            WitnessedMirror x = Mirrors.syncingNewDisk();
            x.demote(0);
            x.resync(4);
            x.resync(4);
            is("promote", 1, x.promote(1, false));
        });
        edge("the other's GENERATION is 0: not UNFIT", () -> {
            WitnessedMirror x = new WitnessedMirror(50);
            x.crash(1, 0);
            x.swap(1);
            is("promote", 0, x.promote(0, false));
        });
    }

    private static void outdated() {
        says("It is not the generation of the witness and force is false: OUTDATED.");
        edge("below it, force is false",
            () -> refused(OUTDATED, Promise12PromoteEdgesTest::node1Outdated, x -> x.promote(1, false)));
        edge("below it, force is true: not OUTDATED", () -> is("promote", 0, node1Outdated().promote(1, true)));
        edge("it is that, force is false: not OUTDATED", () -> is("promote", 1, node1Outdated().promote(0, false)));
        edge("below it by more than one", () -> refused(OUTDATED, () -> {
            WitnessedMirror x = node1Outdated();
            x.promote(1, true);
            x.demote(1);
            x.promote(0, true);
            x.demote(0);
            return x;
        }, x -> x.promote(1, false)));
        edge("the greatest GENERATION of both, but below the witness's: OUTDATED all the same",
            () -> refused(OUTDATED, Promise12PromoteEdgesTest::newestDiskLost, x -> x.promote(1, false)));
    }

    private static void primaryAndLease() {
        says("Else it is PRIMARY (the other one SECONDARY), and holder of a lease that ends at the time plus LENGTH.");
        edge("at time 0", () -> {
            WitnessedMirror x = new WitnessedMirror(7);
            x.promote(1, false);
            is("primary", 1, x.node(1, PRIMARY));
            is("the other", 0, x.node(0, PRIMARY));
            is("holder", 1, x.mirror(HOLDER));
            is("end", 7, x.mirror(LEASE_END));
        });
        edge("later", () -> {
            WitnessedMirror x = new WitnessedMirror(7);
            x.tick(100);
            x.promote(0, false);
            is("holder", 0, x.mirror(HOLDER));
            is("end", 107, x.mirror(LEASE_END));
        });
        edge("its own lease begins anew", () -> {
            WitnessedMirror x = Mirrors.withPrimary(0);
            x.tick(49);
            x.crash(0, 0);
            x.restart(0);
            x.promote(0, false);
            is("end", 99, x.mirror(LEASE_END));
        });
        edge("after the lease of the other one", () -> {
            WitnessedMirror x = Mirrors.withPrimary(0);
            x.tick(50);
            x.promote(1, false);
            is("primary", 1, x.node(1, PRIMARY));
            is("the other", 0, x.node(0, PRIMARY));
            is("holder", 1, x.mirror(HOLDER));
            is("end", 100, x.mirror(LEASE_END));
        });
    }

    private static void goesAlone() {
        says("If its GENERATION was not that of the witness, or the nodes are not CONNECTED and it is not ALONE, it GOES ALONE.");
        edge("not that of the witness, not CONNECTED, not ALONE: once", () -> {
            WitnessedMirror x = node1Outdated();
            x.promote(1, true);
            generations(x, 1, 3, 1, 1);
        });
        edge("not that of the witness, not CONNECTED, ALONE", () -> {
            WitnessedMirror x = node1Outdated();
            x.promote(1, true);
            x.demote(1);
            x.promote(0, true);
            generations(x, 0, 4, 2, 1);
        });
        edge("not that of the witness, CONNECTED", () -> {
            WitnessedMirror x = newestDiskLost();
            x.promote(1, true);
            generations(x, 1, 3, 1, 1);
            is("connected", 1, x.mirror(CONNECTED));
            is("the other's generation", 1, x.node(0, GENERATION));
        });
        edge("that of the witness, not CONNECTED, not ALONE", () -> {
            WitnessedMirror x = new WitnessedMirror(50);
            x.line(false);
            x.promote(1, false);
            generations(x, 1, 2, 1, 1);
        });
        edge("so with force too: once", () -> {
            WitnessedMirror x = new WitnessedMirror(50);
            x.line(false);
            x.promote(1, true);
            generations(x, 1, 2, 1, 1);
        });
    }

    private static void doesNotGoAlone() {
        edge("that of the witness, CONNECTED: it does not", () -> {
            WitnessedMirror x = new WitnessedMirror(50);
            x.promote(1, false);
            generations(x, 1, 1, 0, 0);
        });
        edge("so with force: it does not", () -> {
            WitnessedMirror x = new WitnessedMirror(50);
            x.promote(1, true);
            generations(x, 1, 1, 0, 0);
        });
        edge("that of the witness, not CONNECTED, ALONE: it does not again", () -> {
            WitnessedMirror x = node1Outdated();
            x.promote(0, true);
            generations(x, 0, 2, 1, 1);
        });
        edge("that of the witness, CONNECTED and not ALONE, as the SOURCE of a SYNCING: it does not", () -> {
            WitnessedMirror x = Mirrors.syncingNotAlone();
            x.demote(0);
            x.promote(0, false);
            generations(x, 0, 1, 0, 0);
            is("source", 0, x.mirror(SOURCE));
        });
        edge("that of the witness, CONNECTED and ALONE, as the SOURCE of a SYNCING: it does not", () -> {
            WitnessedMirror x = Mirrors.syncingNewDisk();
            x.demote(0);
            x.promote(0, false);
            generations(x, 0, 2, 1, 1);
            is("source", 0, x.mirror(SOURCE));
        });
    }

    private static void flush() {
        says("Then a FLUSH is done, and the journal is done again:");
        edge("CONNECTED: both disks are flushed", () -> {
            WitnessedMirror x = Mirrors.withPrimary(0);
            Mirrors.write(x, 5, 50);
            x.demote(0);
            x.promote(1, false);
            is("own", 50, x.block(1, 5, true));
            is("the other's", 50, x.block(0, 5, true));
        });
        edge("not CONNECTED: its own disk alone", () -> {
            WitnessedMirror x = Mirrors.withPrimary(0);
            Mirrors.write(x, 5, 50);
            x.demote(0);
            x.line(false);
            x.promote(1, false);
            is("own", 50, x.block(1, 5, true));
            is("the other's", 0, x.block(0, 5, true));
        });
        edge("the journal is done after the FLUSH: its cells are cached", () -> {
            WitnessedMirror x = Mirrors.withPrimary(0);
            Mirrors.write(x, 5, 50);
            x.demote(0);
            x.promote(0, false);
            is("cached", 1, x.node(0, CACHED));
            is("cached of the other", 1, x.node(1, CACHED));
        });
        edge("a mark that was only cached counts", () -> {
            WitnessedMirror x = Mirrors.withBatch(2);
            is("commit", CRASHED, x.commit(9, 0));
            x.tick(50);
            is("stable mark of node 1", 0, x.block(1, 24, true));
            is("promote", 2, x.promote(1, false));
            is("cell 0", 10, x.cell(0));
            is("stable mark of node 1", 2, x.block(1, 24, true));
        });
    }

    private static void journal() {
        says("if the mark's block on its disk holds a number m of 1 .. 3, for each i of 0 .. m - 1 in order, "
            + "if block 25 + 2 i holds a cell number of 0 .. 23, WRITE what block 26 + 2 i holds to that cell's block.");
        edge("the entries beyond m are not done", () -> {
            WitnessedMirror x = Mirrors.withPrimary(0);
            x.stage(1, 10);
            x.stage(2, 20);
            x.stage(3, 30);
            x.commit(-1, 0);
            x.stage(4, 40);
            is("commit", CRASHED, x.commit(8, 0));
            x.restart(0);
            is("promote", 1, x.promote(0, false));
            is("cell 4", 40, x.cell(4));
            is("cached", 1, x.node(0, CACHED));
        });
        for (int cell : new int[] {0, 23}) {
            edge("the cell " + cell + " is a cell", () -> {
                WitnessedMirror x = Mirrors.withPrimary(0);
                x.stage(cell, 7);
                x.commit(8, 0);
                x.restart(0);
                is("before", 0, x.block(0, cell, false));
                is("promote", 1, x.promote(0, false));
                is("cell", 7, x.cell(cell));
            });
        }
        edge("in order: of two values for one cell the later stays", () -> {
            WitnessedMirror x = Mirrors.withPrimary(0);
            x.stage(7, 1);
            x.stage(7, 2);
            x.commit(10, 0);
            x.restart(0);
            x.promote(0, false);
            is("cell", 2, x.cell(7));
        });
        edge("CONNECTED: both disks get the values", () -> {
            WitnessedMirror x = Mirrors.withPrimary(0);
            Mirrors.write(x, 7, 70);
            x.demote(0);
            x.promote(0, false);
            is("cached of the other", 1, x.node(1, CACHED));
            is("marks", 0, x.node(0, MARKS));
        });
        edge("not CONNECTED: one disk, and its MARKS", () -> {
            WitnessedMirror x = Mirrors.withPrimary(0);
            x.stage(7, 70);
            x.commit(8, 0);
            x.restart(0);
            x.promote(0, false);
            is("marks", 2, x.node(0, MARKS));
            is("the other's marks", 0, x.node(1, MARKS));
            is("the other's cell", 0, x.block(1, 7, false));
        });
        edge("the journal of its own disk counts, not the other's", () -> {
            WitnessedMirror x = node1Outdated();
            is("mark of node 0", 1, x.block(0, 24, true));
            is("promote of node 1", 0, x.promote(1, true));
            is("cell 2", 0, x.cell(2));
        });
        edge("the journal stays: it is done once more", () -> {
            WitnessedMirror x = Mirrors.withPrimary(0);
            Mirrors.write(x, 7, 70);
            for (int time = 0; time < 3; time++) {
                x.demote(0);
                is("promote", 1, x.promote(0, false));
            }
            is("mark", 1, x.block(0, 24, true));
        });
    }

    private static void answers() {
        says("Answers m, or 0 if it is none of 1 .. 3.");
        edge("m is 0 on a disk without a journal", () -> is("promote", 0, new WitnessedMirror(50).promote(0, false)));
        edge("m is 0 after a commit that was cut behind the mark 0", () -> {
            WitnessedMirror x = Mirrors.withPrimary(0);
            Mirrors.write(x, 7, 70);
            x.stage(8, 80);
            x.commit(3, 0);
            x.restart(0);
            is("promote", 0, x.promote(0, false));
            is("cell 7", 70, x.cell(7));
            is("cached", 0, x.node(0, CACHED));
        });
        for (int entries = 1; entries <= 3; entries++) {
            int m = entries;
            edge("m is " + m, () -> {
                WitnessedMirror x = Mirrors.withBatch(m);
                is("commit", CRASHED, x.commit(2 * m + 6, 0));
                x.restart(0);
                is("promote", m, x.promote(0, false));
                for (int i = 0; i < 3; i++) {
                    is("cell " + 5 * i, i < m ? 10 + i : 0, x.cell(5 * i));
                }
                is("cached", m, x.node(0, CACHED));
            });
        }
    }

    private static void generations(WitnessedMirror x, int node, int generation, int base, int alone) {
        is("witness's generation", generation, x.mirror(WITNESS_GENERATION));
        is("generation", generation, x.node(node, GENERATION));
        is("base", base, x.node(node, BASE));
        is("alone", alone, x.node(node, ALONE));
    }

    /** Node 0 wrote alone and was demoted: the witness's generation is 2, that of node 1 is 1. */
    private static WitnessedMirror node1Outdated() {
        WitnessedMirror x = Mirrors.withNode0Alone();
        x.demote(0);
        return x;
    }

    /** The disk of generation 2 was swapped and synced from the outdated one: both have generation 1, CONNECTED. */
    private static WitnessedMirror newestDiskLost() {
        WitnessedMirror x = Mirrors.withNode0Alone();
        x.demote(0);
        x.crash(0, 0);
        x.swap(0);
        x.restart(0);
        x.line(true);
        x.connect();
        x.resync(4);
        x.resync(4);
        return x;
    }
}
