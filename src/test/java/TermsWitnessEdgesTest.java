/** The boundaries that the document's terms name for the lease, the generations, the batch and the line between the nodes. */
public final class TermsWitnessEdgesTest extends Edges {
    public static void main(String[] args) {
        disconnect();
        lease();
        goesAlone();
        batchBecomesEmpty();
        batchStays();
        observersChangeNothing();
        end();
    }

    private static void disconnect() {
        says("To DISCONNECT: the nodes are not CONNECTED any more, and no SYNCING is going on.");
        edge("by a cut line while SYNCING", () -> {
            WitnessedMirror x = Mirrors.syncingNewDisk();
            x.line(false);
            is("connected", 0, x.mirror(CONNECTED));
            is("source", NOBODY, x.mirror(SOURCE));
        });
        edge("by a crash of the TARGET while SYNCING", () -> {
            WitnessedMirror x = Mirrors.syncingNewDisk();
            x.crash(1, 0);
            is("connected", 0, x.mirror(CONNECTED));
            is("source", NOBODY, x.mirror(SOURCE));
        });
        edge("by a crash of the SOURCE while SYNCING", () -> {
            WitnessedMirror x = Mirrors.syncingNewDisk();
            x.crash(0, 0);
            is("connected", 0, x.mirror(CONNECTED));
            is("source", NOBODY, x.mirror(SOURCE));
        });
        edge("by a cut commit while SYNCING", () -> {
            WitnessedMirror x = Mirrors.syncingNewDisk();
            x.stage(1, 1);
            x.commit(0, 0);
            is("connected", 0, x.mirror(CONNECTED));
            is("source", NOBODY, x.mirror(SOURCE));
        });
    }

    private static void lease() {
        says("A lease is running if it has a holder and its end is above the time.");
        edge("the time is the last below the end", () -> {
            WitnessedMirror x = Mirrors.withPrimary(0);
            x.tick(49);
            is("promote of the other", HELD, x.promote(1, false));
            is("holder", 0, x.mirror(HOLDER));
        });
        edge("the time is the end", () -> {
            WitnessedMirror x = Mirrors.withPrimary(0);
            x.tick(50);
            is("holder", NOBODY, x.mirror(HOLDER));
            is("promote of the other", DONE, x.promote(1, false));
        });
        edge("the time is above the end", () -> {
            WitnessedMirror x = Mirrors.withPrimary(0);
            x.tick(51);
            is("holder", NOBODY, x.mirror(HOLDER));
            is("promote of the other", DONE, x.promote(1, false));
        });
        edge("it has no holder though its end would be above the time", () -> {
            WitnessedMirror x = Mirrors.withPrimary(0);
            x.demote(0);
            is("promote of the other", DONE, x.promote(1, false));
        });
    }

    private static void goesAlone() {
        says("Node n GOES ALONE: the witness's generation rises by 1; the node's BASE becomes its GENERATION, "
            + "and its GENERATION that of the witness; it is ALONE.");
        edge("for the first time", () -> {
            WitnessedMirror x = Mirrors.withNode0Alone();
            is("witness's generation", 2, x.mirror(WITNESS_GENERATION));
            is("base", 1, x.node(0, BASE));
            is("generation", 2, x.node(0, GENERATION));
            is("alone", 1, x.node(0, ALONE));
        });
        edge("the other node stays as it is", () -> {
            WitnessedMirror x = Mirrors.withNode0Alone();
            is("base", 0, x.node(1, BASE));
            is("generation", 1, x.node(1, GENERATION));
            is("alone", 0, x.node(1, ALONE));
        });
        edge("the witness is two ahead: the GENERATION is the witness's, not one more than the node's", () -> {
            WitnessedMirror x = Mirrors.withNode0Alone();
            x.demote(0);
            x.promote(1, true);
            is("witness's generation", 3, x.mirror(WITNESS_GENERATION));
            is("base", 1, x.node(1, BASE));
            is("generation", 3, x.node(1, GENERATION));
        });
        edge("a node that is ALONE goes so again: its BASE is the GENERATION that it had", () -> {
            WitnessedMirror x = Mirrors.withNode0Alone();
            x.demote(0);
            x.promote(1, true);
            x.demote(1);
            x.promote(0, true);
            is("witness's generation", 4, x.mirror(WITNESS_GENERATION));
            is("base", 2, x.node(0, BASE));
            is("generation", 4, x.node(0, GENERATION));
            is("alone", 1, x.node(0, ALONE));
        });
        edge("after a resync it goes so anew", () -> {
            WitnessedMirror x = Mirrors.withNode0Alone();
            x.line(true);
            x.connect();
            x.resync(4);
            is("not ALONE after the resync", 0, x.node(0, ALONE));
            x.line(false);
            Mirrors.write(x, 2, 6);
            is("base", 2, x.node(0, BASE));
            is("generation", 3, x.node(0, GENERATION));
            is("alone", 1, x.node(0, ALONE));
        });
    }

    private static void batchBecomesEmpty() {
        says("Whenever a PRIMARY becomes SECONDARY the batch becomes empty.");
        edge("by demote", () -> {
            WitnessedMirror x = Mirrors.withBatch(3);
            x.demote(0);
            is("batch", 0, x.mirror(BATCH));
        });
        edge("by crash", () -> {
            WitnessedMirror x = Mirrors.withBatch(3);
            x.crash(0, 0);
            is("batch", 0, x.mirror(BATCH));
        });
        edge("by a cut commit", () -> {
            WitnessedMirror x = Mirrors.withBatch(3);
            x.commit(0, 0);
            is("batch", 0, x.mirror(BATCH));
        });
        edge("by the end of its lease", () -> {
            WitnessedMirror x = Mirrors.withBatch(3);
            x.tick(50);
            is("batch", 0, x.mirror(BATCH));
        });
        edge("the next PRIMARY begins with an empty batch", () -> {
            WitnessedMirror x = Mirrors.withBatch(3);
            x.demote(0);
            x.promote(1, false);
            is("commit", REFUSED, x.commit(-1, 0));
            is("stage", 1, x.stage(0, 1));
        });
    }

    private static void batchStays() {
        says("Whenever a PRIMARY becomes SECONDARY the batch becomes empty.");
        batchStaysThrough("a crash of the SECONDARY", x -> x.crash(1, 0));
        batchStaysThrough("a cut of the mirror line", x -> x.line(false));
        batchStaysThrough("a cut of the witness line", x -> x.witnessLine(0, false));
        batchStaysThrough("a renew", x -> x.renew());
        batchStaysThrough("a tick to the last unit of the lease", x -> x.tick(49));
        batchStaysThrough("a demote of the SECONDARY", x -> x.demote(1));
        batchStaysThrough("a promote of the other that is HELD", x -> x.promote(1, true));
        batchStaysThrough("a promote of the PRIMARY itself", x -> x.promote(0, true));
        batchStaysThrough("a crash and restart of the SECONDARY, a connect and a resync", x -> {
            x.crash(1, 0);
            x.swap(1);
            x.restart(1);
            x.connect();
            x.resync(4);
            x.resync(4);
        });
    }

    private interface Calls {
        void on(WitnessedMirror x);
    }

    private static void batchStaysThrough(String what, Calls calls) {
        edge("not by " + what, () -> {
            WitnessedMirror x = Mirrors.withBatch(3);
            calls.on(x);
            is("batch", 3, x.mirror(BATCH));
            x.witnessLine(0, true);
            is("commit", DONE, x.commit(-1, 0));
            for (int i = 0; i < 3; i++) {
                is("cell " + 5 * i, 10 + i, x.cell(5 * i));
            }
        });
    }

    private static void observersChangeNothing() {
        says("Nothing is promised beyond the answers and state changes described above");
        edge("block, cell, node and mirror change nothing, whatever they are asked", () -> {
            WitnessedMirror x = Mirrors.withBatch(2);
            for (int number = -2; number < 40; number++) {
                x.cell(number);
                x.mirror(number);
                x.node(number & 1, number);
                x.block(number & 1, number, number % 3 == 0);
            }
            WitnessedMirror y = Mirrors.withBatch(2);
            is("commit", y.commit(-1, 0), x.commit(-1, 0));
            same("what they left", Mirrors.state(y), Mirrors.state(x));
        });
        edge("two objects have nothing in common", () -> {
            WitnessedMirror x = Mirrors.withBatch(2);
            WitnessedMirror y = new WitnessedMirror(50);
            String before = Mirrors.state(y);
            x.commit(-1, 0);
            x.line(false);
            Mirrors.write(x, 1, 1);
            x.tick(7);
            x.crash(0, -1);
            same("the other object", before, Mirrors.state(y));
            is("its time", 0, y.tick(0));
        });
    }
}
