public final class Promise09WitnessLineEdgesTest extends Edges {
    public static void main(String[] args) {
        says("out of range answers REFUSED");
        for (int node : NO_NODES) {
            edge("witnessLine(" + node + ", false)",
                () -> refused(REFUSED, () -> Mirrors.withBatch(1), x -> x.witnessLine(node, false)));
        }
        says("Sets the witness line of a node; DONE.");
        for (int node = 0; node < 2; node++) {
            int asked = node;
            edge("up and cut, of node " + node, () -> {
                WitnessedMirror x = new WitnessedMirror(50);
                is("witnessLine", DONE, x.witnessLine(asked, false));
                is("its line", 0, x.node(asked, WITNESS_LINE));
                is("the other's line", 1, x.node(1 - asked, WITNESS_LINE));
            });
            edge("cut and cut again, of node " + node, () -> {
                WitnessedMirror x = new WitnessedMirror(50);
                x.witnessLine(asked, false);
                is("witnessLine", DONE, x.witnessLine(asked, false));
                is("its line", 0, x.node(asked, WITNESS_LINE));
            });
            edge("cut and set up, of node " + node, () -> {
                WitnessedMirror x = new WitnessedMirror(50);
                x.witnessLine(0, false);
                x.witnessLine(1, false);
                is("witnessLine", DONE, x.witnessLine(asked, true));
                is("its line", 1, x.node(asked, WITNESS_LINE));
                is("the other's line", 0, x.node(1 - asked, WITNESS_LINE));
            });
            edge("up and set up, of node " + node, () -> {
                WitnessedMirror x = new WitnessedMirror(50);
                is("witnessLine", DONE, x.witnessLine(asked, true));
                is("its line", 1, x.node(asked, WITNESS_LINE));
            });
            edge("of node " + node + ", which is down", () -> {
                WitnessedMirror x = new WitnessedMirror(50);
                x.crash(asked, 0);
                is("witnessLine", DONE, x.witnessLine(asked, false));
                is("its line", 0, x.node(asked, WITNESS_LINE));
                x.restart(asked);
                is("its line after restart", 0, x.node(asked, WITNESS_LINE));
            });
        }
        edge("a cut leaves the PRIMARY, its lease and the mirror line", () -> {
            WitnessedMirror x = Mirrors.withPrimary(0);
            x.witnessLine(0, false);
            is("primary", 1, x.node(0, PRIMARY));
            is("holder", 0, x.mirror(HOLDER));
            is("end", 50, x.mirror(LEASE_END));
            is("connected", 1, x.mirror(CONNECTED));
            is("mirror line", 1, x.mirror(MIRROR_LINE));
        });
        end();
    }
}
