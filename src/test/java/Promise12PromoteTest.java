public final class Promise12PromoteTest {
    private static final Due due = new Due("Promise12PromoteTest");

    public static void main(String[] args) {
        refusals();
        held();
        ownLeaseIsNoHindrance();
        unfitComesBeforeOutdated();
        outdated();
        forcedGoesAlone();
        forcedWhenConnected();
        notConnectedGoesAlone();
        aloneStaysAsItIs();
        flushesFirst();
        redoesTheJournal();
        redoneWritesAreMarkedWhenAlone();
        due.end();
    }

    private static void refusals() {
        WitnessedMirror x = new WitnessedMirror(50);
        due.is("promote(-1)", -1, x.promote(-1, true));
        due.is("promote(2)", -1, x.promote(2, true));
        x.witnessLine(0, false);
        due.is("its witness line is cut", -1, x.promote(0, true));
        x.witnessLine(0, true);
        x.crash(0, 0);
        due.is("it is down", -1, x.promote(0, true));
        x.restart(0);
        x.witnessLine(1, false);
        due.is("promote", 0, x.promote(0, false));
        due.is("it is PRIMARY", -1, x.promote(0, true));
        due.is("REFUSED comes before HELD", -1, x.promote(1, true));
    }

    private static void held() {
        WitnessedMirror x = new WitnessedMirror(10);
        x.tick(3);
        due.is("promote", 0, x.promote(0, false));
        due.is("primary", 1, x.node(0, Mirrors.PRIMARY));
        due.is("holder", 0, x.mirror(Mirrors.HOLDER));
        due.is("end", 13, x.mirror(Mirrors.LEASE_END));
        due.is("generation stays", 1, x.node(0, Mirrors.GENERATION));
        due.is("not ALONE", 0, x.node(0, Mirrors.ALONE));
        due.is("held", -4, x.promote(1, false));
        x.tick(9);
        due.is("held by the last unit", -4, x.promote(1, true));
        x.tick(1);
        due.is("free at the end", 0, x.promote(1, false));
        due.is("holder", 1, x.mirror(Mirrors.HOLDER));
        due.is("end", 23, x.mirror(Mirrors.LEASE_END));
        WitnessedMirror y = Mirrors.withPrimary(0);
        y.crash(1, 0);
        y.swap(1);
        y.restart(1);
        due.is("HELD comes before UNFIT", -4, y.promote(1, true));
        y.demote(0);
        due.is("then UNFIT", -6, y.promote(1, true));
    }

    private static void ownLeaseIsNoHindrance() {
        WitnessedMirror x = Mirrors.withPrimary(0);
        x.crash(0, 0);
        x.restart(0);
        x.tick(7);
        due.is("promote", 0, x.promote(0, false));
        due.is("end", 57, x.mirror(Mirrors.LEASE_END));
    }

    private static void unfitComesBeforeOutdated() {
        WitnessedMirror x = new WitnessedMirror(50);
        x.crash(1, 0);
        x.swap(1);
        x.restart(1);
        due.is("promote", -6, x.promote(1, false));
        due.is("promote by force", -6, x.promote(1, true));
        due.is("holder", 2, x.mirror(Mirrors.HOLDER));
    }

    private static void outdated() {
        WitnessedMirror x = Mirrors.withNode0Alone();
        due.is("HELD comes before OUTDATED", -4, x.promote(1, false));
        x.demote(0);
        due.is("promote", -5, x.promote(1, false));
        due.is("holder", 2, x.mirror(Mirrors.HOLDER));
        due.is("generation of the witness", 2, x.mirror(Mirrors.WITNESS_GENERATION));
        due.is("the other is not", 1, x.promote(0, false));
    }

    private static void forcedGoesAlone() {
        WitnessedMirror x = Mirrors.withNode0Alone();
        x.demote(0);
        due.is("promote by force", 0, x.promote(1, true));
        due.is("generation of the witness", 3, x.mirror(Mirrors.WITNESS_GENERATION));
        due.is("generation", 3, x.node(1, Mirrors.GENERATION));
        due.is("base", 1, x.node(1, Mirrors.BASE));
        due.is("alone", 1, x.node(1, Mirrors.ALONE));
        x.demote(1);
        due.is("now the other is outdated", -5, x.promote(0, false));
        due.is("and goes by force", 1, x.promote(0, true));
        due.is("generation", 4, x.node(0, Mirrors.GENERATION));
        due.is("base", 2, x.node(0, Mirrors.BASE));
    }

    private static void forcedWhenConnected() {
        WitnessedMirror x = Mirrors.withNode0Alone();
        x.crash(0, 0);
        x.swap(0);
        x.restart(0);
        x.line(true);
        x.connect();
        x.resync(4);
        x.resync(4);
        due.is("generation", 1, x.node(0, Mirrors.GENERATION));
        due.is("promote", -5, x.promote(0, false));
        due.is("promote by force", 0, x.promote(0, true));
        due.is("generation", 3, x.node(0, Mirrors.GENERATION));
        due.is("base", 1, x.node(0, Mirrors.BASE));
        due.is("alone", 1, x.node(0, Mirrors.ALONE));
        due.is("still connected", 1, x.mirror(Mirrors.CONNECTED));
        due.is("generation of the other", 1, x.node(1, Mirrors.GENERATION));
    }

    private static void notConnectedGoesAlone() {
        WitnessedMirror x = new WitnessedMirror(50);
        x.line(false);
        due.is("promote", 0, x.promote(1, false));
        due.is("generation", 2, x.node(1, Mirrors.GENERATION));
        due.is("base", 1, x.node(1, Mirrors.BASE));
        due.is("alone", 1, x.node(1, Mirrors.ALONE));
    }

    private static void aloneStaysAsItIs() {
        WitnessedMirror x = Mirrors.withNode0Alone();
        x.demote(0);
        due.is("promote", 1, x.promote(0, true));
        due.is("generation", 2, x.node(0, Mirrors.GENERATION));
        due.is("base", 1, x.node(0, Mirrors.BASE));
    }

    private static void flushesFirst() {
        WitnessedMirror x = Mirrors.withPrimary(0);
        x.stage(5, 50);
        x.stage(6, 60);
        x.commit(-1, 0);
        x.demote(0);
        due.is("promote", 2, x.promote(1, false));
        for (int n = 0; n < 2; n++) {
            due.is("flushed on " + n, 50, x.block(n, 5, true));
            due.is("written again on " + n, 2, x.node(n, Mirrors.CACHED));
        }
        WitnessedMirror y = Mirrors.withPrimary(0);
        Mirrors.write(y, 5, 50);
        y.line(false);
        y.demote(0);
        y.promote(1, false);
        due.is("flushed on the new primary", 50, y.block(1, 5, true));
        due.is("not on the other when cut off", 0, y.block(0, 5, true));
    }

    private static void redoesTheJournal() {
        for (int n = 1; n <= 3; n++) {
            WitnessedMirror x = Mirrors.withPrimary(0);
            for (int i = 0; i < n; i++) {
                x.stage(7 + i, 100 + i);
            }
            x.commit(2 * n + 6, 0);
            x.restart(0);
            due.is("cell 7 before", 0, x.block(0, 7, false));
            due.is("promote", n, x.promote(0, false));
            for (int i = 0; i < 3; i++) {
                due.is("cell " + (7 + i), i < n ? 100 + i : 0, x.cell(7 + i));
                due.is("cell " + (7 + i) + " stable", 0, x.block(0, 7 + i, true));
            }
            due.is("cached", n, x.node(0, Mirrors.CACHED));
        }
        WitnessedMirror twice = Mirrors.withPrimary(0);
        twice.stage(7, 1);
        twice.stage(7, 2);
        twice.commit(10, 0);
        twice.restart(0);
        due.is("promote", 2, twice.promote(0, false));
        due.is("the later entry wins", 2, twice.cell(7));
    }

    private static void redoneWritesAreMarkedWhenAlone() {
        WitnessedMirror x = Mirrors.withPrimary(0);
        x.stage(7, 100);
        x.commit(8, 0);
        x.restart(0);
        due.is("marks before", 0, x.node(0, Mirrors.MARKS));
        x.promote(0, false);
        due.is("marks after", 2, x.node(0, Mirrors.MARKS));
        due.is("the other has it not", 0, x.block(1, 7, false));
    }
}
