public final class Promise08LineTest {
    private static final Due due = new Due("Promise08LineTest");

    public static void main(String[] args) {
        WitnessedMirror x = Mirrors.withPrimary(0);
        Mirrors.write(x, 5, 50);
        due.is("line(true) when up", 0, x.line(true));
        due.is("connected", 1, x.mirror(Mirrors.CONNECTED));
        for (int time = 0; time < 2; time++) {
            due.is("line(false)", 0, x.line(false));
            due.is("line", 0, x.mirror(Mirrors.MIRROR_LINE));
            due.is("connected", 0, x.mirror(Mirrors.CONNECTED));
        }
        due.is("primary stays", 1, x.node(0, Mirrors.PRIMARY));
        due.is("cached stay", 1, x.node(1, Mirrors.CACHED));
        due.is("marks", 0, x.node(0, Mirrors.MARKS));
        due.is("line(true)", 0, x.line(true));
        due.is("line", 1, x.mirror(Mirrors.MIRROR_LINE));
        due.is("not connected by that", 0, x.mirror(Mirrors.CONNECTED));
        endsSyncing();
        due.end();
    }

    private static void endsSyncing() {
        WitnessedMirror x = Mirrors.syncingNewDisk();
        x.resync(1);
        x.line(true);
        due.is("syncing goes on", 0, x.mirror(Mirrors.SOURCE));
        x.line(false);
        due.is("no syncing", 2, x.mirror(Mirrors.SOURCE));
        due.is("resync", -1, x.resync(1));
        due.is("marks of the source stay", 254, x.node(0, Mirrors.MARKS));
        due.is("generation of the target", 0, x.node(1, Mirrors.GENERATION));
        x.line(true);
        due.is("all is synced anew", 8, x.connect());
    }
}
