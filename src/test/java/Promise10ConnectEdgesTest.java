public final class Promise10ConnectEdgesTest extends Edges {
    public static void main(String[] args) {
        refusals();
        unfit();
        equalGenerations();
        unequalGenerations();
        marksTellAll();
        marksDoNotTellAll();
        finishedAtOnce();
        syncingGoesOn();
        answers();
        end();
    }

    private static void refusals() {
        says("The nodes are CONNECTED, the mirror line is cut, or a node is down: REFUSED.");
        edge("CONNECTED", () -> refused(REFUSED, () -> Mirrors.withBatch(2), x -> x.connect()));
        edge("CONNECTED with cached values", () -> refused(REFUSED, () -> {
            WitnessedMirror x = Mirrors.withBatch(2);
            x.commit(-1, 0);
            return x;
        }, x -> x.connect()));
        edge("CONNECTED and SYNCING", () -> refused(REFUSED, Mirrors::syncingNewDisk, x -> x.connect()));
        edge("the mirror line is cut", () -> refused(REFUSED, Mirrors::withNode0Alone, x -> x.connect()));
        for (int node = 0; node < 2; node++) {
            int down = node;
            edge("node " + node + " is down", () -> refused(REFUSED, () -> {
                WitnessedMirror x = Mirrors.withPrimary(1 - down);
                x.crash(down, 0);
                return x;
            }, x -> x.connect()));
        }
        edge("both are down", () -> refused(REFUSED, () -> {
            WitnessedMirror x = new WitnessedMirror(50);
            x.crash(0, 0);
            x.crash(1, 0);
            return x;
        }, x -> x.connect()));
        edge("none of these: not REFUSED", () -> {
            WitnessedMirror x = Mirrors.withPrimary(0);
            x.line(false);
            x.line(true);
            is("connect", 0, x.connect());
            is("connected", 1, x.mirror(CONNECTED));
        });
        edge("witness lines do not matter", () -> {
            WitnessedMirror x = Mirrors.withNode0Alone();
            x.line(true);
            x.witnessLine(0, false);
            x.witnessLine(1, false);
            is("connect", 2, x.connect());
        });
    }

    private static void unfit() {
        says("Both GENERATIONS are 0: UNFIT.");
        edge("both", () -> refused(UNFIT, Mirrors::withTwoNewDisks, x -> x.connect()));
        for (int node = 0; node < 2; node++) {
            int fresh = node;
            edge("that of node " + node + " alone: not UNFIT, and the other is the SOURCE", () -> {
                WitnessedMirror x = new WitnessedMirror(50);
                newDisk(x, fresh);
                is("connect", 8, x.connect());
                is("source", 1 - fresh, x.mirror(SOURCE));
            });
        }
    }

    private static void equalGenerations() {
        says("if the GENERATIONS are equal, the SOURCE is the PRIMARY, or node 0 if none is;");
        for (int node = 0; node < 2; node++) {
            int primary = node;
            edge("node " + node + " is the PRIMARY", () -> {
                WitnessedMirror x = Mirrors.withPrimary(primary);
                Mirrors.write(x, 5, 50);
                x.crash(1 - primary, 0);
                x.restart(1 - primary);
                is("connect", 1, x.connect());
                is("source", primary, x.mirror(SOURCE));
            });
            edge("none is the PRIMARY, node " + node + " was", () -> {
                WitnessedMirror x = Mirrors.withPrimary(primary);
                Mirrors.write(x, 5, 50);
                x.crash(primary, 0);
                x.restart(primary);
                is("connect", 1, x.connect());
                is("source", 0, x.mirror(SOURCE));
            });
        }
        says("Else, with U the extents in the MARKS of either node:");
        edge("U is the MARKS of the TARGET alone", () -> {
            WitnessedMirror x = Mirrors.withPrimary(0);
            Mirrors.write(x, 5, 50);
            x.line(false);
            x.crash(1, 0);
            x.restart(1);
            x.line(true);
            marksAre(x, 0, 2);
            is("connect", 1, x.connect());
            marksAre(x, 2, 0);
        });
        edge("U is the MARKS of the SOURCE alone", () -> {
            WitnessedMirror x = Mirrors.withPrimary(1);
            Mirrors.write(x, 5, 50);
            x.demote(1);
            x.line(false);
            x.crash(0, 0);
            x.restart(0);
            x.line(true);
            marksAre(x, 2, 0);
            is("connect", 1, x.connect());
            marksAre(x, 2, 0);
        });
    }

    private static void unequalGenerations() {
        says("else the SOURCE is the node with the greater GENERATION, and unless it is ALONE and its BASE is the GENERATION "
            + "of the other one, U is all eight extents instead.");
        for (int node = 0; node < 2; node++) {
            int greater = node;
            edge("node " + node + " has the greater one, as the PRIMARY", () -> {
                WitnessedMirror x = aloneAndBack(greater);
                is("connect", 2, x.connect());
                is("source", greater, x.mirror(SOURCE));
            });
            edge("node " + node + " has the greater one, and none is the PRIMARY", () -> {
                WitnessedMirror x = aloneAndBack(greater);
                x.demote(greater);
                is("connect", 2, x.connect());
                is("source", greater, x.mirror(SOURCE));
            });
        }
    }

    private static void marksTellAll() {
        edge("ALONE, its BASE is the other's GENERATION: U is the MARKS", () -> {
            WitnessedMirror x = aloneAndBack(0);
            is("connect", 2, x.connect());
            marksAre(x, 64 + 1, 0);
        });
        edge("ALONE on that BASE, and the other has MARKS too: U is those of either", () -> {
            WitnessedMirror x = Mirrors.withPrimary(0);
            Mirrors.write(x, 21, 50);
            x.line(false);
            x.crash(1, 0);
            x.restart(1);
            Mirrors.write(x, 2, 5);
            x.line(true);
            marksAre(x, 64 + 1, 32);
            is("connect", 3, x.connect());
            marksAre(x, 64 + 32 + 1, 0);
        });
        edge("so, and an extent is in the MARKS of both: it counts once", () -> {
            WitnessedMirror x = Mirrors.withPrimary(0);
            Mirrors.write(x, 2, 50);
            x.line(false);
            x.crash(1, 0);
            x.restart(1);
            Mirrors.write(x, 2, 5);
            x.line(true);
            marksAre(x, 64 + 1, 1);
            is("connect", 2, x.connect());
            marksAre(x, 64 + 1, 0);
        });
        edge("so, and the MARKS are all eight", () -> {
            WitnessedMirror x = Mirrors.withPrimary(0);
            x.line(false);
            for (int cell = 0; cell < 24; cell += 4) {
                x.stage(cell, 1);
                Mirrors.write(x, cell, 2);
            }
            x.line(true);
            marksAre(x, 255, 0);
            is("connect", 8, x.connect());
            marksAre(x, 255, 0);
        });
    }

    private static void marksDoNotTellAll() {
        edge("not ALONE, though its BASE is the other's GENERATION (both 0): all eight", () -> {
            WitnessedMirror x = Mirrors.withPrimary(0);
            newDisk(x, 1);
            is("base of 0", 0, x.node(0, BASE));
            is("generation of 1", 0, x.node(1, GENERATION));
            is("alone", 0, x.node(0, ALONE));
            is("connect", 8, x.connect());
            marksAre(x, 255, 0);
        });
        edge("ALONE, its BASE is above the other's GENERATION: all eight", () -> {
            WitnessedMirror x = aloneAndBack(0);
            newDisk(x, 1);
            is("base of 0", 1, x.node(0, BASE));
            is("connect", 8, x.connect());
            marksAre(x, 255, 0);
        });
        edge("ALONE, its BASE is below the other's GENERATION: all eight", () -> {
            WitnessedMirror x = bothAlone();
            is("base of 1", 1, x.node(1, BASE));
            is("generation of 0", 2, x.node(0, GENERATION));
            is("connect", 8, x.connect());
            is("source", 1, x.mirror(SOURCE));
            marksAre(x, 0, 255);
        });
        edge("a SYNCING that was cut off begins anew with all eight", () -> {
            WitnessedMirror x = Mirrors.syncingNewDisk();
            x.resync(4);
            x.line(false);
            x.line(true);
            is("connect", 8, x.connect());
        });
    }

    private static void finishedAtOnce() {
        says("The nodes are CONNECTED. If U is empty the work is FINISHED;");
        edge("equal GENERATIONS, U is empty", () -> {
            WitnessedMirror x = Mirrors.withPrimary(0);
            Mirrors.write(x, 5, 50);
            x.line(false);
            x.line(true);
            is("connect", 0, x.connect());
            is("connected", 1, x.mirror(CONNECTED));
            is("source", NOBODY, x.mirror(SOURCE));
        });
        edge("the SOURCE is ALONE, U is empty", () -> {
            WitnessedMirror x = aloneWithoutMarks();
            is("connect", 0, x.connect());
            is("connected", 1, x.mirror(CONNECTED));
            is("source", NOBODY, x.mirror(SOURCE));
        });
        says("FINISHED means: all cached values of both disks become stable and are no more cached; "
            + "the node that is not the SOURCE gets the GENERATION of the SOURCE; no node is ALONE, or has MARKS; "
            + "no SYNCING goes on.");
        edge("all cached values of both disks become stable", () -> {
            WitnessedMirror x = Mirrors.withPrimary(0);
            Mirrors.write(x, 5, 50);
            x.line(false);
            x.line(true);
            x.connect();
            for (int node = 0; node < 2; node++) {
                is("stable", 50, x.block(node, 5, true));
                is("cached", 0, x.node(node, CACHED));
            }
        });
        edge("the node that is not the SOURCE gets its GENERATION", () -> {
            WitnessedMirror x = aloneWithoutMarks();
            is("generation of 0 before", 1, x.node(0, GENERATION));
            x.connect();
            is("generation of 0", 2, x.node(0, GENERATION));
            is("generation of 1", 2, x.node(1, GENERATION));
        });
        edge("no node is ALONE", () -> {
            WitnessedMirror x = aloneWithoutMarks();
            is("alone before", 1, x.node(1, ALONE));
            x.connect();
            is("alone", 0, x.node(1, ALONE));
        });
        edge("the BASES, the PRIMARY and the witness's generation stay", () -> {
            WitnessedMirror x = aloneWithoutMarks();
            x.connect();
            is("base of 0", 0, x.node(0, BASE));
            is("base of 1", 1, x.node(1, BASE));
            is("primary", 1, x.node(1, PRIMARY));
            is("witness's generation", 2, x.mirror(WITNESS_GENERATION));
        });
    }

    private static void syncingGoesOn() {
        says("else the MARKS of the SOURCE are U, the TARGET has no MARKS, GENERATION 0 and is not ALONE, and SYNCING goes on.");
        edge("the MARKS of both", () -> {
            WitnessedMirror x = bothAlone();
            marksAre(x, 64 + 1, 0);
            x.connect();
            marksAre(x, 0, 255);
        });
        edge("the TARGET has GENERATION 0", () -> {
            WitnessedMirror x = bothAlone();
            x.connect();
            is("generation of the target", 0, x.node(0, GENERATION));
            is("generation of the source", 3, x.node(1, GENERATION));
        });
        edge("the TARGET is not ALONE, and the SOURCE stays so", () -> {
            WitnessedMirror x = bothAlone();
            is("alone before", 1, x.node(0, ALONE));
            x.connect();
            is("alone, the target", 0, x.node(0, ALONE));
            is("alone, the source", 1, x.node(1, ALONE));
        });
        edge("SYNCING goes on", () -> {
            WitnessedMirror x = bothAlone();
            x.connect();
            is("connected", 1, x.mirror(CONNECTED));
            is("source", 1, x.mirror(SOURCE));
            is("resync", 7, x.resync(1));
        });
        edge("the BASES, the cached values and the PRIMARY stay", () -> {
            WitnessedMirror x = bothAlone();
            x.connect();
            is("base of the target", 1, x.node(0, BASE));
            is("base of the source", 1, x.node(1, BASE));
            is("cached of the target", 1, x.node(0, CACHED));
            is("held by the target", 5, x.block(0, 2, false));
            is("primary", 1, x.node(1, PRIMARY));
        });
        edge("equal GENERATIONS: the TARGET has GENERATION 0 there too", () -> {
            WitnessedMirror x = Mirrors.withPrimary(1);
            Mirrors.write(x, 5, 50);
            x.crash(0, 0);
            x.restart(0);
            x.connect();
            is("generation of the target", 0, x.node(0, GENERATION));
            is("generation of the source", 1, x.node(1, GENERATION));
        });
    }

    private static void answers() {
        says("Answers the number of extents in U.");
        edge("none", () -> is("connect", 0, aloneWithoutMarks().connect()));
        edge("two, not the sum that tells them", () -> is("connect", 2, aloneAndBack(0).connect()));
        edge("all eight", () -> is("connect", 8, bothAlone().connect()));
    }

    private static void newDisk(WitnessedMirror x, int node) {
        x.crash(node, 0);
        x.swap(node);
        x.restart(node);
    }

    /** The node is the primary and wrote cell 2 alone: GENERATION 2, BASE 1. The line is up again. */
    private static WitnessedMirror aloneAndBack(int node) {
        WitnessedMirror x = Mirrors.withPrimary(node);
        x.line(false);
        Mirrors.write(x, 2, 5);
        x.line(true);
        return x;
    }

    /** Node 1 was promoted alone, with no journal to do again: it is ALONE, and no extent is in any MARKS. */
    private static WitnessedMirror aloneWithoutMarks() {
        WitnessedMirror x = new WitnessedMirror(50);
        x.line(false);
        x.promote(1, false);
        x.line(true);
        return x;
    }

    /** Node 0 wrote cell 2 alone, then node 1 was promoted by force: both are ALONE on BASE 1. */
    private static WitnessedMirror bothAlone() {
        WitnessedMirror x = aloneAndBack(0);
        x.demote(0);
        x.promote(1, true);
        return x;
    }
}
