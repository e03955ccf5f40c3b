/** Numbers come before cases, cases come in their order, and a call that is refused changes nothing. */
public final class TermsNumbersEdgesTest extends Edges {
    public static void main(String[] args) {
        numbersFirst();
        casesInOrder();
        changesNothing();
        end();
    }

    private static void numbersFirst() {
        says("Every call tests its numbers first (nodes, cells, blocks, counts, whats): out of range answers REFUSED "
            + "(NONE if the answer is a long).");
        edge("a cell too large for a batch that is full: REFUSED, not FULL",
            () -> refused(REFUSED, () -> Mirrors.withBatch(3), x -> x.stage(24, 1)));
        edge("a cell too small for a batch that is full: REFUSED, not FULL",
            () -> refused(REFUSED, () -> Mirrors.withBatch(3), x -> x.stage(-1, 1)));
        edge("a node too large while a lease is running: REFUSED, not HELD",
            () -> refused(REFUSED, () -> Mirrors.withPrimary(0), x -> x.promote(2, true)));
        edge("a node too small while a lease is running: REFUSED, not HELD",
            () -> refused(REFUSED, () -> Mirrors.withPrimary(0), x -> x.promote(-1, true)));
        edge("a node too large where both disks are new: REFUSED, not UNFIT",
            () -> refused(REFUSED, Mirrors::withTwoNewDisks, x -> x.promote(2, true)));
        edge("a count too large while SYNCING", () -> refused(REFUSED, Mirrors::syncingNewDisk, x -> x.resync(5)));
        edge("a count too small while SYNCING", () -> refused(REFUSED, Mirrors::syncingNewDisk, x -> x.resync(0)));
        edge("a count too large where no SYNCING goes on",
            () -> refused(REFUSED, () -> Mirrors.withPrimary(0), x -> x.resync(5)));
        edge("a cell too large, the answer being a long: NONE",
            () -> refused(NONE, () -> Mirrors.withPrimary(0), x -> x.cell(24)));
        edge("a cell too large where no node is PRIMARY: NONE",
            () -> refused(NONE, () -> new WitnessedMirror(50), x -> x.cell(24)));
        edge("a block and a node too large, the answer being a long: NONE",
            () -> refused(NONE, () -> Mirrors.withPrimary(0), x -> x.block(2, 32, true)));
        edge("a node and a what too large", () -> refused(REFUSED, () -> Mirrors.withPrimary(0), x -> x.node(2, 8)));
    }

    private static void casesInOrder() {
        says("Then the cases are tested in the order of the call's comment.");
        edge("commit of an empty batch that would be FROZEN: REFUSED", () -> refused(REFUSED, () -> {
            WitnessedMirror x = Mirrors.withPrimary(0);
            x.line(false);
            x.witnessLine(0, false);
            return x;
        }, x -> x.commit(-1, 0)));
        edge("connect of two new disks with the line cut: REFUSED, not UNFIT", () -> refused(REFUSED, () -> {
            WitnessedMirror x = Mirrors.withTwoNewDisks();
            x.line(false);
            return x;
        }, x -> x.connect()));
        edge("connect of two new disks, one node down: REFUSED, not UNFIT", () -> refused(REFUSED, () -> {
            WitnessedMirror x = Mirrors.withTwoNewDisks();
            x.crash(1, 0);
            return x;
        }, x -> x.connect()));
        edge("promote of a node that is down while HELD: REFUSED", () -> refused(REFUSED, () -> {
            WitnessedMirror x = Mirrors.withPrimary(0);
            x.crash(1, 0);
            return x;
        }, x -> x.promote(1, false)));
        edge("promote of a node with its witness line cut while HELD: REFUSED", () -> refused(REFUSED, () -> {
            WitnessedMirror x = Mirrors.withPrimary(0);
            x.witnessLine(1, false);
            return x;
        }, x -> x.promote(1, false)));
        edge("promote of a new disk with its witness line cut: REFUSED, not UNFIT", () -> refused(REFUSED, () -> {
            WitnessedMirror x = Mirrors.withTwoNewDisks();
            x.witnessLine(1, false);
            return x;
        }, x -> x.promote(1, false)));
        edge("promote of an outdated node that is down: REFUSED, not OUTDATED", () -> refused(REFUSED, () -> {
            WitnessedMirror x = outdatedNode1();
            x.crash(1, 0);
            return x;
        }, x -> x.promote(1, false)));
        edge("promote of a new disk while HELD: HELD, not UNFIT", () -> refused(HELD, () -> {
            WitnessedMirror x = Mirrors.withPrimary(0);
            x.crash(1, 0);
            x.swap(1);
            x.restart(1);
            return x;
        }, x -> x.promote(1, false)));
        edge("promote of an outdated node while HELD: HELD, not OUTDATED",
            () -> refused(HELD, Mirrors::withNode0Alone, x -> x.promote(1, false)));
        edge("promote of a new disk, whose GENERATION is not the witness's: UNFIT, not OUTDATED",
            () -> refused(UNFIT, Mirrors::withTwoNewDisks, x -> x.promote(1, false)));
    }

    private static void changesNothing() {
        says("A call that answers REFUSED, NONE, FULL, FROZEN, HELD, OUTDATED or UNFIT changes nothing.");
        edge("REFUSED", () -> refused(REFUSED, () -> Mirrors.withBatch(2), x -> x.crash(2, -1)));
        edge("NONE", () -> refused(NONE, () -> Mirrors.withBatch(2), x -> x.cell(24)));
        edge("FULL", () -> refused(FULL, () -> Mirrors.withBatch(3), x -> x.stage(7, 70)));
        edge("FROZEN", () -> refused(FROZEN, Mirrors::frozen, x -> x.commit(-1, 0)));
        edge("HELD", () -> refused(HELD, () -> Mirrors.withBatch(2), x -> x.promote(1, true)));
        edge("OUTDATED", () -> refused(OUTDATED, TermsNumbersEdgesTest::outdatedNode1, x -> x.promote(1, false)));
        edge("UNFIT of promote", () -> refused(UNFIT, Mirrors::withTwoNewDisks, x -> x.promote(0, true)));
        edge("UNFIT of connect", () -> refused(UNFIT, Mirrors::withTwoNewDisks, x -> x.connect()));
    }

    private static WitnessedMirror outdatedNode1() {
        WitnessedMirror x = Mirrors.withNode0Alone();
        x.demote(0);
        return x;
    }
}
