public final class Promise17NodeTest {
    private static final Due due = new Due("Promise17NodeTest");

    public static void main(String[] args) {
        WitnessedMirror x = Mirrors.withNode0Alone();
        due.is("node(-1, 0)", -1, x.node(-1, 0));
        due.is("node(2, 0)", -1, x.node(2, 0));
        due.is("node(0, -1)", -1, x.node(0, -1));
        due.is("node(0, 8)", -1, x.node(0, 8));
        due.is("node(1, MAX)", -1, x.node(1, Integer.MAX_VALUE));
        rows(x, new int[] {1, 1, 2, 1, 1, 65, 1, 1}, new int[] {1, 0, 1, 0, 0, 0, 0, 1});
        x.witnessLine(0, false);
        x.crash(1, 0);
        rows(x, new int[] {1, 1, 2, 1, 1, 65, 1, 0}, new int[] {0, 0, 1, 0, 0, 0, 0, 1});
        sameValueIsCachedToo();
        due.end();
    }

    private static void rows(WitnessedMirror x, int[] first, int[] second) {
        for (int what = 0; what < 8; what++) {
            due.is("node(0, " + what + ")", first[what], x.node(0, what));
            due.is("node(1, " + what + ")", second[what], x.node(1, what));
        }
    }

    private static void sameValueIsCachedToo() {
        WitnessedMirror x = Mirrors.withPrimary(0);
        x.stage(4, 0);
        x.stage(4, 0);
        x.stage(5, 0);
        x.commit(-1, 0);
        due.is("cached", 2, x.node(0, Mirrors.CACHED));
        due.is("cached on the other", 2, x.node(1, Mirrors.CACHED));
    }
}
