public final class Promise02StageEdgesTest extends Edges {
    public static void main(String[] args) {
        numbers();
        noPrimary();
        full();
        taken();
        end();
    }

    private static void numbers() {
        says("out of range answers REFUSED");
        for (int cell : NO_CELLS) {
            edge("stage(" + cell + ")", () -> refused(REFUSED, () -> Mirrors.withBatch(1), x -> x.stage(cell, 7)));
        }
        for (int cell : new int[] {0, 23}) {
            edge("stage(" + cell + ") is in range", () -> {
                WitnessedMirror x = Mirrors.withPrimary(0);
                is("stage", 1, x.stage(cell, 7));
                x.commit(-1, 0);
                is("cell", 7, x.cell(cell));
            });
        }
    }

    private static void noPrimary() {
        says("No node is PRIMARY: REFUSED.");
        edge("in a new object", () -> refused(REFUSED, () -> new WitnessedMirror(50), x -> x.stage(0, 1)));
        edge("after demote", () -> refused(REFUSED, () -> {
            WitnessedMirror x = Mirrors.withBatch(3);
            x.demote(0);
            return x;
        }, x -> x.stage(0, 1)));
        edge("after a crash of the PRIMARY", () -> refused(REFUSED, () -> {
            WitnessedMirror x = Mirrors.withBatch(3);
            x.crash(0, 0);
            return x;
        }, x -> x.stage(0, 1)));
        edge("after the end of the lease", () -> refused(REFUSED, () -> {
            WitnessedMirror x = Mirrors.withBatch(3);
            x.tick(50);
            return x;
        }, x -> x.stage(0, 1)));
        edge("node 1 is PRIMARY: not REFUSED", () -> is("stage", 1, Mirrors.withPrimary(1).stage(0, 1)));
    }

    private static void full() {
        says("The batch has three entries: FULL.");
        edge("two entries: not FULL", () -> is("stage", 3, Mirrors.withBatch(2).stage(1, 1)));
        edge("three entries: FULL", () -> refused(FULL, () -> Mirrors.withBatch(3), x -> x.stage(1, 1)));
        edge("three entries: FULL as often as it is asked", () -> refused(FULL, () -> Mirrors.withBatch(3), x -> {
            x.stage(1, 1);
            return x.stage(1, 1);
        }));
        edge("FULL for a cell that the batch has", () -> refused(FULL, () -> Mirrors.withBatch(3), x -> x.stage(0, 99)));
        edge("a full batch is committed: not FULL", () -> {
            WitnessedMirror x = Mirrors.withBatch(3);
            x.commit(-1, 0);
            is("stage", 1, x.stage(1, 1));
        });
    }

    private static void taken() {
        says("Else the entry is put at its end; answers how many entries it has then.");
        for (int entries = 0; entries < 3; entries++) {
            int before = entries;
            edge("into a batch of " + before, () -> {
                WitnessedMirror x = Mirrors.withBatch(before);
                is("stage", before + 1, x.stage(1, 1));
                is("batch", before + 1, x.mirror(BATCH));
            });
        }
        for (int value : new int[] {MIN, -1, 0, 1, MAX}) {
            edge("any value is in range: " + value, () -> {
                WitnessedMirror x = Mirrors.withPrimary(0);
                Mirrors.write(x, 3, 9);
                is("stage", 1, x.stage(3, value));
                is("commit", DONE, x.commit(-1, 0));
                is("cell", value, x.cell(3));
            });
        }
        edge("one cell three times: three entries, and the last one wins", () -> {
            WitnessedMirror x = Mirrors.withPrimary(0);
            x.stage(3, 1);
            x.stage(3, 2);
            is("stage", 3, x.stage(3, 3));
            x.commit(-1, 0);
            is("cell", 3, x.cell(3));
            is("cached", 1, x.node(0, CACHED));
        });
        edge("the PRIMARY would be FROZEN: the entry is taken all the same", () -> is("stage", 2, Mirrors.frozen().stage(1, 1)));
    }
}
