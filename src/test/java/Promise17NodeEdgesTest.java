public final class Promise17NodeEdgesTest extends Edges {
    public static void main(String[] args) {
        numbers();
        upAndPrimary();
        generations();
        marksAndCached();
        end();
    }

    private static void numbers() {
        says("out of range answers REFUSED");
        for (int node : NO_NODES) {
            for (int what = 0; what < 8; what++) {
                int asked = what;
                edge("node(" + node + ", " + what + ")",
                    () -> refused(REFUSED, () -> Mirrors.withBatch(1), x -> x.node(node, asked)));
            }
        }
        says("Another what: REFUSED.");
        for (int what : new int[] {MIN, -1, 8, MAX}) {
            edge("node(0, " + what + ")", () -> refused(REFUSED, () -> Mirrors.withBatch(1), x -> x.node(0, what)));
            edge("node(1, " + what + ")", () -> refused(REFUSED, () -> Mirrors.withBatch(1), x -> x.node(1, what)));
        }
    }

    private static void upAndPrimary() {
        says("0: 1 if it is up, else 0;");
        for (int node = 0; node < 2; node++) {
            int asked = node;
            edge("up and down, node " + node, () -> {
                WitnessedMirror x = new WitnessedMirror(50);
                is("up", 1, x.node(asked, UP));
                x.crash(asked, 0);
                is("down", 0, x.node(asked, UP));
                is("the other", 1, x.node(1 - asked, UP));
            });
        }
        says("1: 1 if it is PRIMARY, else 0;");
        for (int node = 0; node < 2; node++) {
            int asked = node;
            edge("PRIMARY and SECONDARY, node " + node, () -> {
                WitnessedMirror x = new WitnessedMirror(50);
                is("at first", 0, x.node(asked, PRIMARY));
                x.promote(asked, false);
                is("promoted", 1, x.node(asked, PRIMARY));
                is("the other", 0, x.node(1 - asked, PRIMARY));
            });
        }
        says("7: 1 if its witness line is up, else 0.");
        for (int node = 0; node < 2; node++) {
            int asked = node;
            edge("up and cut, node " + node, () -> {
                WitnessedMirror x = new WitnessedMirror(50);
                is("up", 1, x.node(asked, WITNESS_LINE));
                x.witnessLine(asked, false);
                is("cut", 0, x.node(asked, WITNESS_LINE));
                is("the other", 1, x.node(1 - asked, WITNESS_LINE));
            });
        }
    }

    private static void generations() {
        says("2 its GENERATION; 3 its BASE; 4: 1 if it is ALONE, else 0;");
        edge("of a node that went ALONE and of the other", () -> {
            WitnessedMirror x = Mirrors.withNode0Alone();
            rowIs(x, 0, 2, 1, 1);
            rowIs(x, 1, 1, 0, 0);
        });
        edge("of a new disk", () -> {
            WitnessedMirror x = Mirrors.withTwoNewDisks();
            rowIs(x, 0, 0, 0, 0);
            rowIs(x, 1, 0, 0, 0);
        });
        edge("of a node that is down", () -> {
            WitnessedMirror x = Mirrors.withNode0Alone();
            x.crash(0, 0);
            rowIs(x, 0, 2, 1, 1);
        });
    }

    private static void rowIs(WitnessedMirror x, int node, int generation, int base, int alone) {
        is("generation of " + node, generation, x.node(node, GENERATION));
        is("base of " + node, base, x.node(node, BASE));
        is("alone of " + node, alone, x.node(node, ALONE));
    }

    private static void marksAndCached() {
        says("5 its MARKS;");
        edge("none", () -> is("marks", 0, new WitnessedMirror(50).node(1, MARKS)));
        edge("the least and the greatest extent", () -> {
            WitnessedMirror x = Mirrors.withPrimary(0);
            x.line(false);
            x.stage(0, 1);
            Mirrors.write(x, 1, 2);
            is("marks", 128 + 64 + 1, x.node(0, MARKS));
        });
        edge("all eight", () -> is("marks", 255, Mirrors.syncingNewDisk().node(0, MARKS)));
        says("6 how many of its blocks have cached values;");
        edge("none", () -> is("cached", 0, Mirrors.withPrimary(0).node(0, CACHED)));
        edge("one, by two values for one block", () -> {
            WitnessedMirror x = Mirrors.withPrimary(0);
            x.stage(4, 1);
            Mirrors.write(x, 4, 2);
            is("cached", 1, x.node(0, CACHED));
        });
        edge("three, on each disk", () -> {
            WitnessedMirror x = Mirrors.withBatch(3);
            x.commit(-1, 0);
            is("cached", 3, x.node(0, CACHED));
            is("cached of the other", 3, x.node(1, CACHED));
        });
        edge("31, as many as can come together", () -> {
            WitnessedMirror x = withEntriesCachedOnNode1();
            is("cached before", 6, x.node(1, CACHED));
            is("connect", 8, x.connect());
            x.resync(4);
            is("resync", 1, x.resync(3));
            is("cached", 31, x.node(1, CACHED));
        });
    }

    /** Node 1 has the blocks 25 to 30 cached from a commit that was cut; node 0 has written to all extents alone since. */
    private static WitnessedMirror withEntriesCachedOnNode1() {
        WitnessedMirror x = Mirrors.withBatch(3);
        is("commit", CRASHED, x.commit(9, 0));
        x.restart(0);
        x.promote(0, false);
        for (int cell = 0; cell < 24; cell += 4) {
            x.stage(cell, 1);
            Mirrors.write(x, cell, 2);
        }
        return x;
    }
}
