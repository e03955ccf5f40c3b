public final class Promise02StageTest {
    private static final Due due = new Due("Promise02StageTest");

    public static void main(String[] args) {
        refusals();
        fillsTheBatch();
        orderIsKept();
        emptiedWithThePrimary();
        keptWhenTheOtherNodeCrashes();
        due.end();
    }

    private static void refusals() {
        WitnessedMirror x = new WitnessedMirror(50);
        due.is("stage without a primary", -1, x.stage(0, 1));
        x.promote(1, false);
        due.is("stage(-1)", -1, x.stage(-1, 1));
        due.is("stage(24)", -1, x.stage(24, 1));
        due.is("stage(MIN)", -1, x.stage(Integer.MIN_VALUE, 1));
        due.is("stage(MAX)", -1, x.stage(Integer.MAX_VALUE, 1));
        due.is("batch", 0, x.mirror(Mirrors.BATCH));
    }

    private static void fillsTheBatch() {
        WitnessedMirror x = Mirrors.withPrimary(0);
        due.is("stage 1st", 1, x.stage(0, Integer.MIN_VALUE));
        due.is("stage 2nd", 2, x.stage(23, Integer.MAX_VALUE));
        due.is("stage 3rd", 3, x.stage(11, -1));
        due.is("stage 4th", -2, x.stage(5, 1));
        due.is("stage a wrong cell into a full batch", -1, x.stage(24, 1));
        due.is("batch", 3, x.mirror(Mirrors.BATCH));
        due.is("commit", 0, x.commit(-1, 0));
        due.is("cell 0", Integer.MIN_VALUE, x.cell(0));
        due.is("cell 23", Integer.MAX_VALUE, x.cell(23));
        due.is("cell 11", -1, x.cell(11));
        due.is("cell 5", 0, x.cell(5));
        due.is("stage after commit", 1, x.stage(5, 1));
    }

    private static void orderIsKept() {
        WitnessedMirror x = Mirrors.withPrimary(0);
        x.stage(7, 1);
        x.stage(8, 2);
        x.stage(7, 3);
        x.commit(-1, 0);
        due.is("cell staged twice", 3, x.cell(7));
        due.is("block 25", 7, x.block(0, 25, false));
        due.is("block 26", 1, x.block(0, 26, false));
        due.is("block 27", 8, x.block(0, 27, false));
        due.is("block 28", 2, x.block(0, 28, false));
        due.is("block 29", 7, x.block(0, 29, false));
        due.is("block 30", 3, x.block(0, 30, false));
    }

    private static void emptiedWithThePrimary() {
        WitnessedMirror demoted = Mirrors.withPrimary(0);
        demoted.stage(1, 1);
        demoted.demote(0);
        due.is("batch after demote", 0, demoted.mirror(Mirrors.BATCH));
        WitnessedMirror expired = Mirrors.withPrimary(1);
        expired.stage(1, 1);
        expired.tick(50);
        due.is("batch after the lease", 0, expired.mirror(Mirrors.BATCH));
        WitnessedMirror crashed = Mirrors.withPrimary(1);
        crashed.stage(1, 1);
        crashed.crash(1, 0);
        due.is("batch after crash", 0, crashed.mirror(Mirrors.BATCH));
        crashed.restart(1);
        crashed.promote(1, false);
        due.is("commit of the lost batch", -1, crashed.commit(-1, 0));
        due.is("stage anew", 1, crashed.stage(1, 1));
    }

    private static void keptWhenTheOtherNodeCrashes() {
        WitnessedMirror x = Mirrors.withPrimary(0);
        x.stage(1, 1);
        x.crash(1, 0);
        x.line(false);
        x.tick(49);
        due.is("batch", 1, x.mirror(Mirrors.BATCH));
        due.is("commit", 0, x.commit(-1, 0));
        due.is("cell 1", 1, x.cell(1));
    }
}
