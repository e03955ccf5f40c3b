public final class Promise15TickTest {
    private static final Due due = new Due("Promise15TickTest");

    public static void main(String[] args) {
        range();
        leaseEnds();
        leaseOfACrashedNodeEnds();
        due.end();
    }

    private static void range() {
        WitnessedMirror x = new WitnessedMirror(10);
        due.is("tick(-1)", -1, x.tick(-1));
        due.is("tick(101)", -1, x.tick(101));
        due.is("tick(MIN)", -1, x.tick(Integer.MIN_VALUE));
        due.is("tick(0)", 0, x.tick(0));
        due.is("tick(1)", 1, x.tick(1));
        due.is("tick(100)", 101, x.tick(100));
        due.is("tick(100)", 201, x.tick(100));
    }

    private static void leaseEnds() {
        WitnessedMirror x = new WitnessedMirror(10);
        x.promote(0, false);
        x.stage(1, 1);
        due.is("tick(0)", 0, x.tick(0));
        due.is("tick(9)", 9, x.tick(9));
        due.is("holder", 0, x.mirror(Mirrors.HOLDER));
        due.is("primary", 1, x.node(0, Mirrors.PRIMARY));
        due.is("batch", 1, x.mirror(Mirrors.BATCH));
        due.is("tick(1)", 10, x.tick(1));
        due.is("holder", 2, x.mirror(Mirrors.HOLDER));
        due.is("end", 0, x.mirror(Mirrors.LEASE_END));
        due.is("primary", 0, x.node(0, Mirrors.PRIMARY));
        due.is("batch", 0, x.mirror(Mirrors.BATCH));
        due.is("up", 1, x.node(0, Mirrors.UP));
        due.is("connected", 1, x.mirror(Mirrors.CONNECTED));
        x.promote(1, false);
        x.tick(100);
        due.is("primary 1", 0, x.node(1, Mirrors.PRIMARY));
    }

    private static void leaseOfACrashedNodeEnds() {
        WitnessedMirror x = new WitnessedMirror(10);
        x.promote(0, false);
        x.crash(0, 0);
        x.tick(9);
        due.is("holder", 0, x.mirror(Mirrors.HOLDER));
        x.tick(1);
        due.is("holder", 2, x.mirror(Mirrors.HOLDER));
    }
}
