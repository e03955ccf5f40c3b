public final class Promise04CellEdgesTest extends Edges {
    public static void main(String[] args) {
        numbers();
        whatItHolds();
        noPrimary();
        staged();
        end();
    }

    private static void numbers() {
        says("out of range answers REFUSED (NONE if the answer is a long)");
        for (int cell : NO_CELLS) {
            edge("cell(" + cell + ")", () -> refused(NONE, () -> Mirrors.withBatch(1), x -> x.cell(cell)));
        }
        edge("the mark's block holds a number, but it is no cell", () -> refused(NONE, () -> {
            WitnessedMirror x = Mirrors.withBatch(2);
            x.commit(-1, 0);
            return x;
        }, x -> x.cell(24)));
        for (int cell : new int[] {0, 23}) {
            edge("cell(" + cell + ") is in range", () -> {
                WitnessedMirror x = Mirrors.withPrimary(0);
                is("before", 0, x.cell(cell));
                Mirrors.write(x, cell, 7);
                is("after", 7, x.cell(cell));
            });
        }
    }

    private static void whatItHolds() {
        says("What the cell's block on the disk of the PRIMARY holds; NONE if no node is PRIMARY.");
        for (int value : new int[] {MIN, -1, MAX}) {
            edge("the value " + value + " is told as it is", () -> {
                WitnessedMirror x = Mirrors.withPrimary(0);
                Mirrors.write(x, 3, value);
                is("cell", value, x.cell(3));
            });
        }
        edge("the disk of node 1 if that is the PRIMARY", () -> {
            WitnessedMirror x = Mirrors.withNode0Alone();
            is("cell of node 0", 5, x.cell(2));
            x.demote(0);
            x.promote(1, true);
            is("cell of node 1", 0, x.cell(2));
        });
    }

    private static void noPrimary() {
        edge("no PRIMARY in a new object", () -> refused(NONE, () -> new WitnessedMirror(50), x -> x.cell(0)));
        edge("no PRIMARY after demote", () -> refused(NONE, () -> {
            WitnessedMirror x = Mirrors.withNode0Alone();
            x.demote(0);
            return x;
        }, x -> x.cell(2)));
        edge("no PRIMARY after a crash", () -> refused(NONE, () -> {
            WitnessedMirror x = Mirrors.withNode0Alone();
            x.crash(0, -1);
            return x;
        }, x -> x.cell(2)));
        edge("no PRIMARY after the end of the lease", () -> refused(NONE, () -> {
            WitnessedMirror x = Mirrors.withNode0Alone();
            x.tick(50);
            return x;
        }, x -> x.cell(2)));
    }

    private static void staged() {
        says("Staged entries don't count.");
        edge("before the commit", () -> {
            WitnessedMirror x = Mirrors.withPrimary(0);
            Mirrors.write(x, 3, 7);
            x.stage(3, 8);
            is("cell", 7, x.cell(3));
        });
        edge("after a commit that is FROZEN", () -> {
            WitnessedMirror x = Mirrors.frozen();
            x.commit(-1, 0);
            is("cell", 0, x.cell(2));
        });
    }
}
