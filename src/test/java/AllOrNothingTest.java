/** A batch is written whole or not at all, wherever its commit is cut and whatever the crash keeps. */
public final class AllOrNothingTest {
    private static final Due due = new Due("AllOrNothingTest");
    private static final int[] KEEPS = {0, -1, 1, 1 << 5, 1 << 23, 1 << 24, 0x55555555, 0xAAAAAAAA, 0x00FFFFFF, 0xFF000000};

    public static void main(String[] args) {
        for (int n = 1; n <= 3; n++) {
            for (int cut = 0; cut < 3 * n + 7; cut++) {
                for (int keep : KEEPS) {
                    crashedNodeComesBack(n, cut, keep);
                    otherNodeTakesOver(n, cut, keep);
                    crashedTwice(n, cut, keep);
                }
            }
        }
        due.end();
    }

    private static void crashedNodeComesBack(int n, int cut, int keep) {
        WitnessedMirror x = cutCommit(n, cut, keep);
        x.restart(0);
        x.promote(0, false);
        wholeOrNot(x, n, "back, cut " + cut + " keep " + keep);
    }

    private static void otherNodeTakesOver(int n, int cut, int keep) {
        WitnessedMirror x = cutCommit(n, cut, keep);
        x.tick(50);
        x.promote(1, false);
        wholeOrNot(x, n, "over, cut " + cut + " keep " + keep);
        x.restart(0);
        x.connect();
        x.resync(4);
        x.resync(4);
        x.demote(1);
        x.promote(0, false);
        wholeOrNot(x, n, "resynced, cut " + cut + " keep " + keep);
        for (int block = 0; block < 32; block++) {
            due.is("block " + block + " of both", x.block(0, block, false), x.block(1, block, false));
        }
    }

    private static void crashedTwice(int n, int cut, int keep) {
        WitnessedMirror x = cutCommit(n, cut, keep);
        x.restart(0);
        x.promote(0, false);
        long first = x.cell(0);
        x.crash(0, ~keep);
        x.restart(0);
        x.promote(0, false);
        wholeOrNot(x, n, "twice, cut " + cut + " keep " + keep);
        due.is("what was read stays", first, x.cell(0));
    }

    private static void wholeOrNot(WitnessedMirror x, int n, String when) {
        long first = x.cell(0);
        due.is(when + ": old or new", 1, first == 1 || first == 101 ? 1 : 0);
        for (int i = 1; i < n; i++) {
            due.is(when + ": cell " + 5 * i, first + 5 * i, x.cell(5 * i));
        }
    }

    private static WitnessedMirror cutCommit(int n, int cut, int keep) {
        WitnessedMirror x = Mirrors.withPrimary(0);
        stageAll(x, n, 1);
        x.commit(-1, 0);
        stageAll(x, n, 101);
        due.is("commit cut at " + cut, -7, x.commit(cut, keep));
        return x;
    }

    private static void stageAll(WitnessedMirror x, int n, int first) {
        for (int i = 0; i < n; i++) {
            x.stage(5 * i, first + 5 * i);
        }
    }
}
