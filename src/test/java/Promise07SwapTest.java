public final class Promise07SwapTest {
    private static final Due due = new Due("Promise07SwapTest");

    public static void main(String[] args) {
        WitnessedMirror x = Mirrors.withNode0Alone();
        due.is("swap(-1)", -1, x.swap(-1));
        due.is("swap(2)", -1, x.swap(2));
        due.is("swap of a node that is up", -1, x.swap(0));
        due.is("its cell", 5, x.cell(2));
        x.crash(0, -1);
        due.is("its cell is stable", 5, x.block(0, 2, true));
        due.is("swap", 0, x.swap(0));
        for (int block = 0; block < 32; block++) {
            due.is("block " + block, 0, x.block(0, block, true));
            due.is("block " + block, 0, x.block(0, block, false));
        }
        int[] node = {0, 0, 0, 0, 0, 0, 0, 1};
        for (int what = 0; what < node.length; what++) {
            due.is("node(0, " + what + ")", node[what], x.node(0, what));
        }
        due.is("witness's generation stays", 2, x.mirror(Mirrors.WITNESS_GENERATION));
        due.is("the lease stays", 0, x.mirror(Mirrors.HOLDER));
        due.is("the other's generation", 1, x.node(1, Mirrors.GENERATION));
        due.is("swap again", 0, x.swap(0));
        x.restart(0);
        due.is("promote of a new disk", -6, x.promote(0, true));
        witnessLineStays();
        due.end();
    }

    private static void witnessLineStays() {
        WitnessedMirror x = new WitnessedMirror(50);
        x.witnessLine(1, false);
        x.crash(1, 0);
        x.swap(1);
        due.is("witness line", 0, x.node(1, Mirrors.WITNESS_LINE));
    }
}
