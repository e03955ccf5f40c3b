/** The boundaries that the document's terms name for the disks, the extents and the steps. */
public final class TermsDisksEdgesTest extends Edges {
    public static void main(String[] args) {
        values();
        places();
        extents();
        steps();
        end();
    }

    private static void values() {
        says("Nodes 0 and 1 have a disk each.");
        edge("what node 0 writes alone is not on the disk of node 1", () -> {
            WitnessedMirror x = Mirrors.withNode0Alone();
            is("of 0", 5, x.block(0, 2, false));
            is("of 1", 0, x.block(1, 2, false));
        });
        says("What a block HOLDS is its cached value if it has one, else its stable one.");
        edge("a cached 0 over another stable value", () -> {
            WitnessedMirror x = Mirrors.withPrimary(0);
            Mirrors.write(x, 4, 40);
            Mirrors.write(x, 4, 0);
            is("stable", 40, x.block(0, 4, true));
            is("held", 0, x.block(0, 4, false));
            is("cell", 0, x.cell(4));
        });
        edge("a lost cached value leaves the stable one", () -> {
            WitnessedMirror x = Mirrors.withPrimary(0);
            Mirrors.write(x, 4, 40);
            Mirrors.write(x, 4, 41);
            x.crash(0, 0);
            is("held", 40, x.block(0, 4, false));
        });
        edge("a cached value like the stable one is a cached value", () -> {
            WitnessedMirror x = Mirrors.withPrimary(0);
            Mirrors.write(x, 4, 0);
            is("cached", 1, x.node(0, CACHED));
        });
    }

    private static void places() {
        says("Blocks 0 .. 23 are the cells 0 .. 23;");
        edge("the first cell is block 0", () -> {
            WitnessedMirror x = Mirrors.withPrimary(0);
            Mirrors.write(x, 0, 7);
            is("block 0", 7, x.block(0, 0, false));
        });
        edge("the last cell is block 23", () -> {
            WitnessedMirror x = Mirrors.withPrimary(0);
            Mirrors.write(x, 23, 7);
            is("block 23", 7, x.block(0, 23, false));
        });
        says("the journal is block 24 (the mark) and, for i = 0, 1, 2, block 25 + 2 i (a cell number) "
            + "and block 26 + 2 i (a value).");
        edge("the first entry is in blocks 25 and 26, and the others get none", () -> {
            WitnessedMirror x = Mirrors.withPrimary(0);
            Mirrors.write(x, 22, 7);
            journal(x, 1, 22, 7, 0, 0, 0, 0, 0);
        });
        edge("the second entry is in blocks 27 and 28", () -> {
            WitnessedMirror x = Mirrors.withPrimary(0);
            x.stage(22, 7);
            Mirrors.write(x, 21, 8);
            journal(x, 2, 22, 7, 21, 8, 0, 0, 0);
        });
        edge("the third entry is in blocks 29 and 30, and block 31 is in no entry", () -> {
            WitnessedMirror x = Mirrors.withPrimary(0);
            x.stage(22, 7);
            x.stage(21, 8);
            Mirrors.write(x, 20, 9);
            journal(x, 3, 22, 7, 21, 8, 20, 9, 0);
        });
        edge("a shorter batch leaves the later entries of a longer one where they are", () -> {
            WitnessedMirror x = Mirrors.withPrimary(0);
            x.stage(22, 7);
            x.stage(21, 8);
            Mirrors.write(x, 20, 9);
            Mirrors.write(x, 19, 6);
            journal(x, 1, 19, 6, 21, 8, 20, 9, 0);
        });
    }

    private static void journal(WitnessedMirror x, int... blocks) {
        for (int i = 0; i < blocks.length; i++) {
            is("block " + (24 + i), blocks[i], x.block(0, 24 + i, true));
        }
    }

    private static void extents() {
        says("EXTENT e of 0 .. 7 is the blocks 4 e .. 4 e + 3.");
        int[] firstAndLast = {0, 3, 4, 7, 8, 11, 12, 15, 16, 19, 20, 23};
        int[] extent = {1, 1, 2, 2, 4, 4, 8, 8, 16, 16, 32, 32};
        for (int i = 0; i < firstAndLast.length; i++) {
            int cell = firstAndLast[i];
            int told = extent[i];
            edge("cell " + cell + " is written alone", () -> {
                WitnessedMirror x = aloneWith(1, cell);
                is("marks", 64 + told, x.node(0, MARKS));
            });
            edge("cell " + cell + " is cached when its node crashes", () -> {
                WitnessedMirror x = Mirrors.withPrimary(0);
                Mirrors.write(x, cell, 7);
                x.crash(0, 0);
                is("marks", told, x.node(0, MARKS));
                is("marks of the other", told, x.node(1, MARKS));
            });
        }
        edge("a batch of one ends in block 26, of extent 6", () -> is("marks", 64 + 1, aloneWith(1, 0).node(0, MARKS)));
        edge("a batch of two ends in block 28, of extent 7", () -> is("marks", 128 + 64 + 1, aloneWith(2, 0).node(0, MARKS)));
        edge("block 27, the last of extent 6, alone is written", () -> {
            WitnessedMirror x = Mirrors.withBatch(2);
            x.line(false);
            x.commit(6, 0);
            is("marks", 64, x.node(0, MARKS));
        });
        edge("block 28, the first of extent 7, is written too", () -> {
            WitnessedMirror x = Mirrors.withBatch(2);
            x.line(false);
            x.commit(7, 0);
            is("marks", 128 + 64, x.node(0, MARKS));
        });
        says("A set of extents is told as the sum of 2 to the e for its members.");
        edge("no extent", () -> is("marks", 0, Mirrors.withPrimary(0).node(0, MARKS)));
        edge("all eight extents", () -> is("marks", 255, Mirrors.syncingNewDisk().node(0, MARKS)));
    }

    private static WitnessedMirror aloneWith(int entries, int cell) {
        WitnessedMirror x = Mirrors.withPrimary(0);
        x.line(false);
        for (int i = 0; i < entries; i++) {
            x.stage(cell, 7);
        }
        x.commit(-1, 0);
        return x;
    }

    private static void steps() {
        says("WRITE b, v: block b of P's disk gets the cached value v; if CONNECTED, block b of the other disk too; "
            + "if not, the extent of b is added to the MARKS of P.");
        edge("CONNECTED: both disks, no MARKS", () -> {
            WitnessedMirror x = Mirrors.withPrimary(1);
            Mirrors.write(x, 4, 40);
            is("own", 40, x.block(1, 4, false));
            is("the other's", 40, x.block(0, 4, false));
            marksAre(x, 0, 0);
        });
        edge("CONNECTED and SYNCING: both disks, and the MARKS of the SOURCE stay, for an extent that is synced", () -> {
            WitnessedMirror x = Mirrors.syncingNewDisk();
            x.resync(1);
            Mirrors.write(x, 0, 40);
            is("own", 40, x.block(0, 0, false));
            is("the other's", 40, x.block(1, 0, false));
            marksAre(x, 254, 0);
        });
        edge("CONNECTED and SYNCING: so for an extent that is not synced yet", () -> {
            WitnessedMirror x = Mirrors.syncingNewDisk();
            Mirrors.write(x, 23, 40);
            is("own", 40, x.block(0, 23, false));
            is("the other's", 40, x.block(1, 23, false));
            marksAre(x, 255, 0);
        });
        edge("not CONNECTED: one disk, and its MARKS alone", () -> {
            WitnessedMirror x = Mirrors.withPrimary(1);
            x.line(false);
            Mirrors.write(x, 4, 40);
            is("own", 40, x.block(1, 4, false));
            is("the other's", 0, x.block(0, 4, false));
            marksAre(x, 0, 64 + 2);
        });
        edge("an extent is added to those that are in the MARKS", () -> {
            WitnessedMirror x = Mirrors.withNode0Alone();
            Mirrors.write(x, 23, 1);
            is("marks", 64 + 32 + 1, x.node(0, MARKS));
        });
        edge("an extent that is in the MARKS stays there", () -> {
            WitnessedMirror x = Mirrors.withNode0Alone();
            Mirrors.write(x, 2, 1);
            is("marks", 64 + 1, x.node(0, MARKS));
        });
        says("FLUSH: all cached values of P's disk become stable and are no more cached; if CONNECTED, those of the other "
            + "disk too.");
        edge("CONNECTED: both disks", () -> {
            WitnessedMirror x = Mirrors.withPrimary(0);
            Mirrors.write(x, 4, 40);
            Mirrors.write(x, 5, 50);
            is("own", 40, x.block(0, 4, true));
            is("the other's", 40, x.block(1, 4, true));
            is("own cached", 1, x.node(0, CACHED));
            is("the other's cached", 1, x.node(1, CACHED));
        });
        edge("CONNECTED and SYNCING: both disks", () -> {
            WitnessedMirror x = Mirrors.syncingNewDisk();
            x.resync(3);
            is("the other's cached before", 12, x.node(1, CACHED));
            Mirrors.write(x, 0, 40);
            is("the other's cached", 1, x.node(1, CACHED));
            is("the other's", 99, x.block(1, 9, true));
        });
        edge("not CONNECTED: the other disk keeps its cached values", () -> {
            WitnessedMirror x = Mirrors.withPrimary(0);
            Mirrors.write(x, 4, 40);
            x.line(false);
            Mirrors.write(x, 5, 50);
            is("own", 40, x.block(0, 4, true));
            is("the other's stable", 0, x.block(1, 4, true));
            is("the other's held", 40, x.block(1, 4, false));
            is("the other's cached", 1, x.node(1, CACHED));
        });
    }
}
