public final class Promise06RestartTest {
    private static final Due due = new Due("Promise06RestartTest");

    public static void main(String[] args) {
        WitnessedMirror x = Mirrors.withPrimary(0);
        Mirrors.write(x, 5, 50);
        due.is("restart(-1)", -1, x.restart(-1));
        due.is("restart(2)", -1, x.restart(2));
        due.is("restart of a node that is up", -1, x.restart(0));
        due.is("restart of the other", -1, x.restart(1));
        x.crash(0, -1);
        due.is("restart", 0, x.restart(0));
        due.is("up", 1, x.node(0, Mirrors.UP));
        due.is("secondary", 0, x.node(0, Mirrors.PRIMARY));
        due.is("not connected", 0, x.mirror(Mirrors.CONNECTED));
        due.is("marks stay", 2, x.node(0, Mirrors.MARKS));
        due.is("generation stays", 1, x.node(0, Mirrors.GENERATION));
        due.is("the disk stays", 50, x.block(0, 5, true));
        due.is("restart again", -1, x.restart(0));
        due.end();
    }
}
