public final class Promise11ResyncEdgesTest extends Edges {
    public static void main(String[] args) {
        numbers();
        noSyncing();
        counts();
        leastFirst();
        copies();
        finished();
        end();
    }

    private static void numbers() {
        says("count 1 .. 4.");
        for (int count : new int[] {MIN, -1, 0, 5, MAX}) {
            edge("resync(" + count + ")", () -> refused(REFUSED, Mirrors::syncingNewDisk, x -> x.resync(count)));
        }
        for (int count = 1; count <= 4; count++) {
            int given = count;
            edge("resync(" + count + ") is in range", () -> is("resync", 8 - given, Mirrors.syncingNewDisk().resync(given)));
        }
    }

    private static void noSyncing() {
        says("No SYNCING goes on: REFUSED.");
        edge("in a new object", () -> refused(REFUSED, () -> new WitnessedMirror(50), x -> x.resync(1)));
        edge("not CONNECTED, with MARKS", () -> refused(REFUSED, Mirrors::withNode0Alone, x -> x.resync(1)));
        edge("it is FINISHED", () -> refused(REFUSED, () -> {
            WitnessedMirror x = Mirrors.syncingNewDisk();
            x.resync(4);
            x.resync(4);
            return x;
        }, x -> x.resync(1)));
        edge("it was FINISHED by connect", () -> refused(REFUSED, () -> {
            WitnessedMirror x = Mirrors.withPrimary(0);
            x.line(false);
            x.line(true);
            x.connect();
            return x;
        }, x -> x.resync(4)));
        edge("the line was cut", () -> refused(REFUSED, () -> {
            WitnessedMirror x = Mirrors.syncingNewDisk();
            x.line(false);
            x.line(true);
            return x;
        }, x -> x.resync(1)));
        for (int node = 0; node < 2; node++) {
            int crashed = node;
            edge("node " + node + " crashed and is back", () -> refused(REFUSED, () -> {
                WitnessedMirror x = Mirrors.syncingNewDisk();
                x.crash(crashed, 0);
                x.restart(crashed);
                return x;
            }, x -> x.resync(1)));
        }
    }

    private static void counts() {
        says("Answers how many are left.");
        edge("fewer than are left", () -> {
            WitnessedMirror x = Mirrors.syncingNewDisk();
            is("resync(3)", 5, x.resync(3));
            is("resync(3)", 2, x.resync(3));
        });
        edge("as many as are left", () -> {
            WitnessedMirror x = Mirrors.syncingNewDisk();
            x.resync(4);
            is("resync(4)", 0, x.resync(4));
            is("source", NOBODY, x.mirror(SOURCE));
        });
        edge("one fewer than are left", () -> {
            WitnessedMirror x = Mirrors.syncingNewDisk();
            x.resync(4);
            is("resync(3)", 1, x.resync(3));
            is("source", 0, x.mirror(SOURCE));
        });
        says("Count times, or as often as there are MARKS of the SOURCE:");
        edge("one more than are left", () -> {
            WitnessedMirror x = Mirrors.syncingNewDisk();
            x.resync(4);
            x.resync(1);
            is("resync(4)", 0, x.resync(4));
            is("source", NOBODY, x.mirror(SOURCE));
        });
        edge("four where one is left", () -> {
            WitnessedMirror x = Mirrors.syncingNewDisk();
            x.resync(4);
            x.resync(3);
            is("resync(4)", 0, x.resync(4));
        });
    }

    private static void leastFirst() {
        says("the least extent of them is taken out of them, and each of its blocks gets on the disk of the TARGET, "
            + "as a cached value, what it holds on the disk of the SOURCE.");
        int left = 255;
        for (int extent = 0; extent < 7; extent++) {
            int before = extent;
            left -= 1 << extent;
            int after = left;
            edge("extent " + extent + " is the least one of those left", () -> {
                WitnessedMirror x = Mirrors.syncingNewDisk();
                for (int i = 0; i <= before; i++) {
                    x.resync(1);
                }
                is("marks", after, x.node(0, MARKS));
                is("cached of the target", 4 * (before + 1), x.node(1, CACHED));
            });
        }
        edge("extents that are no neighbours: 0, then 6", () -> {
            WitnessedMirror x = Mirrors.withNode0Alone();
            x.line(true);
            x.connect();
            is("resync(1)", 1, x.resync(1));
            is("marks", 64, x.node(0, MARKS));
            is("cached of the target", 4, x.node(1, CACHED));
            is("the mark is not yet there", 0, x.block(1, 24, false));
            is("resync(1)", 0, x.resync(1));
            is("the mark is there", 1, x.block(1, 24, false));
        });
        edge("the MARKS of the TARGET stay none", () -> {
            WitnessedMirror x = Mirrors.syncingNewDisk();
            x.resync(1);
            is("marks", 0, x.node(1, MARKS));
        });
    }

    private static void copies() {
        edge("the first and the last block of each extent are copied, and no block beyond", () -> {
            WitnessedMirror x = sourceWithAllCells();
            for (int extent = 0; extent < 6; extent++) {
                x.resync(1);
                for (int cell = 0; cell < 24; cell++) {
                    int want = cell < 4 * extent + 4 ? 100 + cell : 0;
                    is("cell " + cell + " after extent " + extent, want, x.block(1, cell, false));
                }
            }
            x.resync(1);
            int[] journal = {3, 21, 121, 22, 122, 23, 123, 0};
            for (int i = 0; i < 8; i++) {
                is("block " + (24 + i), i < 4 ? journal[i] : 0, x.block(1, 24 + i, false));
            }
            x.resync(1);
            for (int i = 0; i < 8; i++) {
                is("block " + (24 + i), journal[i], x.block(1, 24 + i, false));
            }
        });
        edge("they are cached on the TARGET, not stable", () -> {
            WitnessedMirror x = sourceWithAllCells();
            x.resync(1);
            is("held", 103, x.block(1, 3, false));
            is("stable", 0, x.block(1, 3, true));
        });
        edge("a value that is the same is cached too", () -> {
            WitnessedMirror x = Mirrors.syncingNewDisk();
            is("source", 0, x.block(0, 0, false));
            x.resync(1);
            is("cached", 4, x.node(1, CACHED));
        });
        edge("what the SOURCE has cached counts, and stays cached there", () -> {
            WitnessedMirror x = Mirrors.withNode0Alone();
            x.line(true);
            x.connect();
            x.resync(1);
            is("stable on the source", 0, x.block(0, 2, true));
            is("held on the target", 5, x.block(1, 2, false));
            is("cached of the source", 1, x.node(0, CACHED));
        });
        edge("a cached value of the TARGET gives way", () -> {
            WitnessedMirror x = Mirrors.withNode0Alone();
            x.demote(0);
            x.promote(1, true);
            x.line(true);
            x.connect();
            is("held on the target before", 5, x.block(0, 2, false));
            x.resync(1);
            is("held on the target", 0, x.block(0, 2, false));
            is("held on the source", 0, x.block(1, 2, false));
        });
        edge("blocks of extents that are not in the MARKS stay as they are", () -> {
            WitnessedMirror x = Mirrors.withPrimary(0);
            Mirrors.write(x, 9, 90);
            x.line(false);
            Mirrors.write(x, 2, 5);
            x.line(true);
            x.connect();
            x.resync(1);
            is("held on the target", 90, x.block(1, 9, false));
            is("stable on the target", 0, x.block(1, 9, true));
        });
    }

    private static void finished() {
        says("If no MARKS are left it is FINISHED as in connect.");
        edge("one is left: not FINISHED", () -> {
            WitnessedMirror x = Mirrors.syncingNewDisk();
            x.resync(4);
            x.resync(3);
            is("generation of the target", 0, x.node(1, GENERATION));
            is("alone", 1, x.node(0, ALONE));
            is("cached of the target", 28, x.node(1, CACHED));
            is("source", 0, x.mirror(SOURCE));
        });
        edge("none is left: FINISHED", () -> {
            WitnessedMirror x = Mirrors.syncingNewDisk();
            x.resync(4);
            x.resync(4);
            is("generation of the target", 2, x.node(1, GENERATION));
            is("generation of the source", 2, x.node(0, GENERATION));
            is("alone", 0, x.node(0, ALONE));
            is("marks", 0, x.node(0, MARKS));
            is("cached of the target", 0, x.node(1, CACHED));
            is("cached of the source", 0, x.node(0, CACHED));
            is("source", NOBODY, x.mirror(SOURCE));
            is("connected", 1, x.mirror(CONNECTED));
        });
        edge("the BASES stay", () -> {
            WitnessedMirror x = Mirrors.syncingNewDisk();
            x.resync(4);
            x.resync(4);
            is("base of the source", 1, x.node(0, BASE));
            is("base of the target", 0, x.node(1, BASE));
        });
        edge("the other way: node 1 is the SOURCE", () -> {
            WitnessedMirror x = Mirrors.withPrimary(1);
            x.line(false);
            Mirrors.write(x, 2, 5);
            x.line(true);
            x.connect();
            is("resync", 0, x.resync(2));
            is("block 2 of node 0", 5, x.block(0, 2, true));
            is("generation of node 0", 2, x.node(0, GENERATION));
        });
    }

    /** Node 0 has 100 + c in each cell c, and node 1 a new disk of which nothing is synced yet. */
    private static WitnessedMirror sourceWithAllCells() {
        WitnessedMirror x = Mirrors.withPrimary(0);
        for (int cell = 0; cell < 24; cell += 3) {
            x.stage(cell, 100 + cell);
            x.stage(cell + 1, 101 + cell);
            Mirrors.write(x, cell + 2, 102 + cell);
        }
        x.crash(1, 0);
        x.swap(1);
        x.restart(1);
        is("connect", 8, x.connect());
        return x;
    }
}
