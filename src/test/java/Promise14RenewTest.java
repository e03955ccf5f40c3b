public final class Promise14RenewTest {
    private static final Due due = new Due("Promise14RenewTest");

    public static void main(String[] args) {
        WitnessedMirror x = new WitnessedMirror(10);
        due.is("renew without a primary", -1, x.renew());
        x.promote(1, false);
        x.tick(4);
        due.is("end before", 10, x.mirror(Mirrors.LEASE_END));
        due.is("renew", 14, x.renew());
        due.is("end after", 14, x.mirror(Mirrors.LEASE_END));
        due.is("holder", 1, x.mirror(Mirrors.HOLDER));
        due.is("renew at the same time", 14, x.renew());
        x.tick(9);
        due.is("primary still", 1, x.node(1, Mirrors.PRIMARY));
        x.witnessLine(1, false);
        due.is("renew with the line cut", -1, x.renew());
        due.is("end stays", 14, x.mirror(Mirrors.LEASE_END));
        x.witnessLine(1, true);
        x.witnessLine(0, false);
        due.is("the other's line does not matter", 23, x.renew());
        x.crash(1, 0);
        due.is("renew after crash", -1, x.renew());
        due.is("end stays", 23, x.mirror(Mirrors.LEASE_END));
        due.end();
    }
}
