public final class Promise01NewObjectTest {
    private static final Due due = new Due("Promise01NewObjectTest");

    public static void main(String[] args) {
        firstState();
        leaseIsClamped();
        due.end();
    }

    private static void firstState() {
        WitnessedMirror x = new WitnessedMirror(10);
        int[] node = {1, 0, 1, 0, 0, 0, 0, 1};
        int[] mirror = {1, 2, 1, 2, 0, 0, 1};
        for (int n = 0; n < 2; n++) {
            for (int what = 0; what < node.length; what++) {
                due.is("node(" + n + ", " + what + ")", node[what], x.node(n, what));
            }
            for (int block = 0; block < 32; block++) {
                due.is("block " + block, 0, x.block(n, block, true));
                due.is("block " + block, 0, x.block(n, block, false));
            }
        }
        for (int what = 0; what < mirror.length; what++) {
            due.is("mirror(" + what + ")", mirror[what], x.mirror(what));
        }
        due.is("tick(0)", 0, x.tick(0));
    }

    private static void leaseIsClamped() {
        int[] given = {Integer.MIN_VALUE, -5, 0, 1, 2, 3, 10, 49, 50, 51, 1000, Integer.MAX_VALUE};
        int[] length = {2, 2, 2, 2, 2, 3, 10, 49, 50, 50, 50, 50};
        for (int i = 0; i < given.length; i++) {
            WitnessedMirror x = new WitnessedMirror(given[i]);
            x.promote(0, false);
            due.is("end with lease " + given[i], length[i], x.mirror(Mirrors.LEASE_END));
        }
    }
}
