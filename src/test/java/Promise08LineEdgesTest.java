public final class Promise08LineEdgesTest extends Edges {
    public static void main(String[] args) {
        says("Sets the mirror line; if it is cut by this (or was cut before and stays so), DISCONNECT. DONE.");
        edge("up and cut by this", () -> {
            WitnessedMirror x = Mirrors.withPrimary(0);
            is("line(false)", DONE, x.line(false));
            is("line", 0, x.mirror(MIRROR_LINE));
            is("connected", 0, x.mirror(CONNECTED));
        });
        edge("cut before and stays so", () -> {
            WitnessedMirror x = Mirrors.withPrimary(0);
            x.line(false);
            is("line(false)", DONE, x.line(false));
            is("line", 0, x.mirror(MIRROR_LINE));
            is("connected", 0, x.mirror(CONNECTED));
        });
        edge("up and stays so: still CONNECTED", () -> {
            WitnessedMirror x = Mirrors.withPrimary(0);
            is("line(true)", DONE, x.line(true));
            is("line", 1, x.mirror(MIRROR_LINE));
            is("connected", 1, x.mirror(CONNECTED));
        });
        edge("cut and set up: not CONNECTED by that", () -> {
            WitnessedMirror x = Mirrors.withPrimary(0);
            x.line(false);
            is("line(true)", DONE, x.line(true));
            is("line", 1, x.mirror(MIRROR_LINE));
            is("connected", 0, x.mirror(CONNECTED));
            is("connect is needed, and can be done", 0, x.connect());
        });
        edge("cut while SYNCING: that ends", () -> {
            WitnessedMirror x = Mirrors.syncingNewDisk();
            x.line(false);
            is("source", NOBODY, x.mirror(SOURCE));
            is("resync", REFUSED, x.resync(1));
        });
        edge("up and stays so while SYNCING: that goes on", () -> {
            WitnessedMirror x = Mirrors.syncingNewDisk();
            x.line(true);
            is("source", 0, x.mirror(SOURCE));
            is("resync", 7, x.resync(1));
        });
        edge("cut with a node down", () -> {
            WitnessedMirror x = Mirrors.withPrimary(0);
            x.crash(1, 0);
            is("line(false)", DONE, x.line(false));
            is("line", 0, x.mirror(MIRROR_LINE));
        });
        edge("a cut leaves the nodes, the disks and the lease", () -> {
            WitnessedMirror x = Mirrors.withPrimary(0);
            Mirrors.write(x, 9, 90);
            x.line(false);
            nodeIs(x, 0, new int[] {1, 1, 1, 0, 0, 0, 1, 1});
            nodeIs(x, 1, new int[] {1, 0, 1, 0, 0, 0, 1, 1});
            is("holder", 0, x.mirror(HOLDER));
        });
        end();
    }
}
