public final class Promise06RestartEdgesTest extends Edges {
    public static void main(String[] args) {
        says("out of range answers REFUSED");
        for (int node : NO_NODES) {
            edge("restart(" + node + ")", () -> refused(REFUSED, Promise06RestartEdgesTest::bothDown, x -> x.restart(node)));
        }
        says("The node is up: REFUSED.");
        for (int node = 0; node < 2; node++) {
            int asked = node;
            edge("node " + node + " is up", () -> refused(REFUSED, () -> Mirrors.withBatch(2), x -> x.restart(asked)));
            edge("node " + node + " is up, the other is down", () -> refused(REFUSED, () -> {
                WitnessedMirror x = Mirrors.withBatch(2);
                x.crash(1 - asked, 0);
                return x;
            }, x -> x.restart(asked)));
            edge("node " + node + " is up again", () -> refused(REFUSED, () -> {
                WitnessedMirror x = bothDown();
                x.restart(asked);
                return x;
            }, x -> x.restart(asked)));
        }
        says("It is up; DONE.");
        for (int node = 0; node < 2; node++) {
            int asked = node;
            edge("both are down, node " + node + " is restarted", () -> {
                WitnessedMirror x = bothDown();
                is("restart", DONE, x.restart(asked));
                is("up", 1, x.node(asked, UP));
                is("the other is down", 0, x.node(1 - asked, UP));
            });
        }
        edge("it is neither PRIMARY nor CONNECTED by that", () -> {
            WitnessedMirror x = Mirrors.withNode0Alone();
            x.line(true);
            x.crash(0, 0);
            x.restart(0);
            is("primary", 0, x.node(0, PRIMARY));
            is("connected", 0, x.mirror(CONNECTED));
        });
        edge("nothing else is changed by it", () -> {
            WitnessedMirror x = Mirrors.withNode0Alone();
            x.crash(0, -1);
            x.restart(0);
            nodeIs(x, 0, new int[] {1, 0, 2, 1, 1, 65, 0, 1});
            is("block 2", 5, x.block(0, 2, true));
            is("holder", 0, x.mirror(HOLDER));
        });
        end();
    }

    private static WitnessedMirror bothDown() {
        WitnessedMirror x = Mirrors.withBatch(2);
        x.commit(-1, 0);
        x.crash(0, 1);
        x.crash(1, 0);
        return x;
    }
}
