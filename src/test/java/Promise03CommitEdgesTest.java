public final class Promise03CommitEdgesTest extends Edges {
    public static void main(String[] args) {
        refusals();
        frozen();
        goesAlone();
        cutInAndOutOfRange();
        crashes();
        Promise03Steps.everyCut();
        done();
        end();
    }

    private static void refusals() {
        says("No node is PRIMARY, or n is 0: REFUSED.");
        edge("no PRIMARY in a new object", () -> refused(REFUSED, () -> new WitnessedMirror(50), x -> x.commit(-1, 0)));
        edge("no PRIMARY after demote", () -> refused(REFUSED, () -> {
            WitnessedMirror x = Mirrors.withBatch(1);
            x.demote(0);
            return x;
        }, x -> x.commit(-1, 0)));
        edge("no PRIMARY after a cut commit", () -> refused(REFUSED, () -> {
            WitnessedMirror x = Mirrors.withBatch(1);
            x.commit(5, 0);
            return x;
        }, x -> x.commit(-1, 0)));
        edge("n is 0", () -> refused(REFUSED, () -> Mirrors.withPrimary(0), x -> x.commit(-1, 0)));
        edge("n is 0 and cut is 0: it does not crash", () -> refused(REFUSED, () -> Mirrors.withPrimary(0), x -> x.commit(0, 0)));
        edge("n is 0 again after a commit", () -> refused(REFUSED, () -> {
            WitnessedMirror x = Mirrors.withBatch(3);
            x.commit(-1, 0);
            return x;
        }, x -> x.commit(-1, 0)));
        edge("n is 0 and the nodes are not CONNECTED: it does not go ALONE", () -> refused(REFUSED, () -> {
            WitnessedMirror x = Mirrors.withPrimary(0);
            x.line(false);
            return x;
        }, x -> x.commit(-1, 0)));
        edge("n is 1: not REFUSED", () -> is("commit", DONE, Mirrors.withBatch(1).commit(-1, 0)));
    }

    private static void frozen() {
        says("The nodes are not CONNECTED, the PRIMARY is not ALONE and its witness line is cut: FROZEN.");
        edge("all three", () -> refused(FROZEN, Mirrors::frozen, x -> x.commit(-1, 0)));
        edge("all three, with a cut in range: it does not crash", () -> refused(FROZEN, Mirrors::frozen, x -> x.commit(0, -1)));
        edge("all three, not CONNECTED by a crash of the other node", () -> refused(FROZEN, () -> {
            WitnessedMirror x = Mirrors.withBatch(1);
            x.crash(1, 0);
            x.witnessLine(0, false);
            return x;
        }, x -> x.commit(-1, 0)));
        edge("all three, node 1 being the PRIMARY", () -> refused(FROZEN, () -> {
            WitnessedMirror x = Mirrors.withPrimary(1);
            x.stage(1, 1);
            x.line(false);
            x.witnessLine(1, false);
            return x;
        }, x -> x.commit(-1, 0)));
        edge("they are CONNECTED: not FROZEN", () -> {
            WitnessedMirror x = Mirrors.withBatch(1);
            x.witnessLine(0, false);
            is("commit", DONE, x.commit(-1, 0));
        });
        edge("they are CONNECTED and SYNCING: not FROZEN", () -> {
            WitnessedMirror x = Mirrors.syncingNotAlone();
            x.witnessLine(0, false);
            is("commit", DONE, Mirrors.write(x, 3, 6));
        });
        edge("it is ALONE: not FROZEN", () -> {
            WitnessedMirror x = Mirrors.withNode0Alone();
            x.witnessLine(0, false);
            is("commit", DONE, Mirrors.write(x, 3, 6));
        });
        edge("its witness line is up: not FROZEN", () -> {
            WitnessedMirror x = Mirrors.withBatch(1);
            x.line(false);
            is("commit", DONE, x.commit(-1, 0));
        });
        edge("the other's witness line is cut: not FROZEN", () -> {
            WitnessedMirror x = Mirrors.withBatch(1);
            x.line(false);
            x.witnessLine(1, false);
            is("commit", DONE, x.commit(-1, 0));
        });
        edge("the witness line is back: the batch that was FROZEN is written", () -> {
            WitnessedMirror x = Mirrors.frozen();
            x.commit(-1, 0);
            x.witnessLine(0, true);
            is("commit", DONE, x.commit(-1, 0));
            is("cell", 5, x.cell(2));
        });
    }

    private static void goesAlone() {
        says("If they are not CONNECTED and the PRIMARY is not ALONE, it GOES ALONE.");
        edge("both", () -> generations(Mirrors.withNode0Alone(), 2, 1, 1));
        edge("they are CONNECTED: it does not", () -> {
            WitnessedMirror x = Mirrors.withPrimary(0);
            Mirrors.write(x, 2, 5);
            generations(x, 1, 0, 0);
        });
        edge("they are CONNECTED and SYNCING: it does not", () -> {
            WitnessedMirror x = Mirrors.syncingNotAlone();
            Mirrors.write(x, 2, 5);
            generations(x, 1, 0, 0);
        });
        edge("they are CONNECTED and SYNCING, and it is ALONE: it does not again", () -> {
            WitnessedMirror x = Mirrors.syncingNewDisk();
            Mirrors.write(x, 2, 5);
            generations(x, 2, 1, 1);
        });
        edge("it is ALONE: it does not again", () -> {
            WitnessedMirror x = Mirrors.withNode0Alone();
            Mirrors.write(x, 2, 6);
            generations(x, 2, 1, 1);
        });
        edge("cut is 0: it does all the same", () -> {
            WitnessedMirror x = Mirrors.withBatch(1);
            x.line(false);
            is("commit", CRASHED, x.commit(0, 0));
            generations(x, 2, 1, 1);
            is("marks", 0, x.node(0, MARKS));
        });
    }

    private static void generations(WitnessedMirror x, int generation, int base, int alone) {
        is("generation of the witness", generation, x.mirror(WITNESS_GENERATION));
        is("generation", generation, x.node(0, GENERATION));
        is("base", base, x.node(0, BASE));
        is("alone", alone, x.node(0, ALONE));
    }

    private static void cutInAndOutOfRange() {
        says("cut: if it is 0 .. 3 n + 6, only the first cut STEPS are done, and then the PRIMARY crashes as by crash with keep, "
            + "which empties the batch: CRASHED.");
        for (int entries = 1; entries <= 3; entries++) {
            cut(entries, MIN, DONE);
            cut(entries, -1, DONE);
            cut(entries, 0, CRASHED);
            cut(entries, 3 * entries + 6, CRASHED);
            cut(entries, 3 * entries + 7, DONE);
            cut(entries, MAX, DONE);
        }
    }

    private static void cut(int entries, int cut, int want) {
        edge("n is " + entries + ", cut is " + cut, () -> {
            WitnessedMirror x = Mirrors.withBatch(entries);
            is("commit", want, x.commit(cut, 0));
            boolean done = want == DONE;
            is("up", done ? 1 : 0, x.node(0, UP));
            is("primary", done ? 1 : 0, x.node(0, PRIMARY));
            is("connected", done ? 1 : 0, x.mirror(CONNECTED));
            is("batch", 0, x.mirror(BATCH));
            for (int i = 0; i < entries; i++) {
                int written = cut == 0 ? 0 : 10 + i;
                is("cell " + 5 * i + " of the other", written, x.block(1, 5 * i, false));
                is("cell " + 5 * i, done ? written : 0, x.block(0, 5 * i, false));
            }
        });
    }

    private static void crashes() {
        edge("the crash by keep: the bit of a block alone counts", () -> {
            WitnessedMirror x = Mirrors.withBatch(3);
            is("commit", CRASHED, x.commit(15, 1 << 5));
            is("cell 0 is lost", 0, x.block(0, 0, true));
            is("cell 5 is kept", 11, x.block(0, 5, true));
            is("cell 10 is lost", 0, x.block(0, 10, true));
        });
        edge("the crash marks both nodes, as they are CONNECTED", () -> {
            WitnessedMirror x = Mirrors.withBatch(3);
            x.commit(15, 0);
            is("marks", 1 + 2 + 4, x.node(0, MARKS));
            is("marks of the other", 1 + 2 + 4, x.node(1, MARKS));
        });
        edge("the crash marks no other node when not CONNECTED", () -> {
            WitnessedMirror x = Mirrors.withBatch(3);
            x.line(false);
            x.commit(15, 0);
            is("marks", 255 - 8 - 16 - 32, x.node(0, MARKS));
            is("marks of the other", 0, x.node(1, MARKS));
        });
        edge("the crashed PRIMARY stays holder of its lease", () -> {
            WitnessedMirror x = Mirrors.withBatch(1);
            x.commit(3, 0);
            is("holder", 0, x.mirror(HOLDER));
            is("end", 50, x.mirror(LEASE_END));
        });
        edge("the other node stays up, and its cached values stay cached", () -> {
            WitnessedMirror x = Mirrors.withBatch(1);
            x.commit(9, 0);
            is("up", 1, x.node(1, UP));
            is("cached", 1, x.node(1, CACHED));
        });
        edge("node 1 as the PRIMARY crashes itself", () -> {
            WitnessedMirror x = Mirrors.withPrimary(1);
            x.stage(3, 30);
            is("commit", CRASHED, x.commit(9, -1));
            is("node 1 is up", 0, x.node(1, UP));
            is("node 0 is up", 1, x.node(0, UP));
            is("cell of node 1 is stable", 30, x.block(1, 3, true));
            is("cell of node 0 is not", 0, x.block(0, 3, true));
        });
    }

    private static void done() {
        says("Else all are done, the batch becomes empty: DONE.");
        edge("the cells are written and not yet flushed", () -> {
            WitnessedMirror x = Mirrors.withBatch(3);
            is("commit", DONE, x.commit(-1, 0));
            for (int i = 0; i < 3; i++) {
                is("held", 10 + i, x.block(0, 5 * i, false));
                is("stable", 0, x.block(0, 5 * i, true));
            }
            is("cached", 3, x.node(0, CACHED));
        });
        edge("keep does not count", () -> {
            WitnessedMirror x = Mirrors.withBatch(3);
            WitnessedMirror y = Mirrors.withBatch(3);
            x.commit(-1, 0);
            y.commit(-1, -1);
            same("state", Mirrors.state(x), Mirrors.state(y));
        });
        edge("the batch is empty, and the PRIMARY stays so", () -> {
            WitnessedMirror x = Mirrors.withBatch(3);
            x.commit(-1, 0);
            is("batch", 0, x.mirror(BATCH));
            is("primary", 1, x.node(0, PRIMARY));
        });
    }
}
