public final class Promise13DemoteTest {
    private static final Due due = new Due("Promise13DemoteTest");

    public static void main(String[] args) {
        WitnessedMirror x = new WitnessedMirror(50);
        due.is("demote(-1)", -1, x.demote(-1));
        due.is("demote(2)", -1, x.demote(2));
        due.is("demote of a secondary", -1, x.demote(0));
        x.promote(1, false);
        x.stage(1, 1);
        due.is("demote of the other", -1, x.demote(0));
        due.is("batch", 1, x.mirror(Mirrors.BATCH));
        due.is("demote", 0, x.demote(1));
        due.is("primary", 0, x.node(1, Mirrors.PRIMARY));
        due.is("up", 1, x.node(1, Mirrors.UP));
        due.is("holder", 2, x.mirror(Mirrors.HOLDER));
        due.is("end", 0, x.mirror(Mirrors.LEASE_END));
        due.is("batch", 0, x.mirror(Mirrors.BATCH));
        due.is("connected", 1, x.mirror(Mirrors.CONNECTED));
        due.is("demote again", -1, x.demote(1));
        due.is("promote of the other", 0, x.promote(0, false));
        x.witnessLine(0, false);
        due.is("demote with the witness line cut", 0, x.demote(0));
        due.is("holder", 2, x.mirror(Mirrors.HOLDER));
        leaseOfACrashedNodeStays();
        due.end();
    }

    private static void leaseOfACrashedNodeStays() {
        WitnessedMirror x = Mirrors.withPrimary(0);
        x.crash(0, 0);
        due.is("demote of a crashed node", -1, x.demote(0));
        due.is("holder", 0, x.mirror(Mirrors.HOLDER));
    }
}
