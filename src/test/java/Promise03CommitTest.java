public final class Promise03CommitTest {
    private static final Due due = new Due("Promise03CommitTest");
    private static final int[] WATCHED = {0, 24, 25, 26, 9};

    public static void main(String[] args) {
        refusals();
        frozen();
        goesAlone();
        goesAloneEvenIfCutAtOnce();
        everyCut(0, new int[][] {
            {0, 2, 0, 5, 0}, {5, 2, 0, 5, 0}, {5, 2, 0, 5, 0}, {5, 0, 0, 5, 0}, {5, 0, 0, 5, 0},
            {5, 0, 0, 5, 0}, {5, 0, 9, 70, 0}, {5, 0, 9, 70, 0}, {5, 1, 9, 70, 0}, {5, 1, 9, 70, 0}});
        everyCut(-1, new int[][] {
            {5, 2, 0, 5, 0}, {5, 2, 0, 5, 0}, {5, 0, 0, 5, 0}, {5, 0, 0, 5, 0}, {5, 0, 9, 5, 0},
            {5, 0, 9, 70, 0}, {5, 0, 9, 70, 0}, {5, 1, 9, 70, 0}, {5, 1, 9, 70, 0}, {5, 1, 9, 70, 70}});
        bothDisksGetTheSteps();
        cutsOutsideTheSteps();
        wholeBatch();
        due.end();
    }

    private static void refusals() {
        WitnessedMirror x = new WitnessedMirror(50);
        due.is("commit without a primary", -1, x.commit(-1, 0));
        x.promote(0, false);
        due.is("commit of nothing", -1, x.commit(-1, 0));
        due.is("commit of nothing, cut", -1, x.commit(0, 0));
        due.is("still up", 1, x.node(0, Mirrors.UP));
        x.line(false);
        x.witnessLine(0, false);
        due.is("commit of nothing when frozen", -1, x.commit(-1, 0));
    }

    private static void frozen() {
        WitnessedMirror x = Mirrors.withPrimary(0);
        x.stage(2, 5);
        x.line(false);
        x.witnessLine(0, false);
        String before = Mirrors.state(x);
        due.is("commit", -3, x.commit(-1, 0));
        due.is("commit, cut", -3, x.commit(0, 0));
        due.same("state after FROZEN", before, Mirrors.state(x));
        x.witnessLine(0, true);
        x.witnessLine(1, false);
        due.is("commit with the line back", 0, x.commit(-1, 0));
        x.witnessLine(0, false);
        due.is("commit when ALONE already", 0, Mirrors.write(x, 3, 6));
        WitnessedMirror y = Mirrors.withPrimary(0);
        y.witnessLine(0, false);
        due.is("commit when CONNECTED", 0, Mirrors.write(y, 3, 6));
    }

    private static void goesAlone() {
        WitnessedMirror x = Mirrors.withPrimary(1);
        Mirrors.write(x, 1, 1);
        due.is("alone when connected", 0, x.node(1, Mirrors.ALONE));
        due.is("marks when connected", 0, x.node(1, Mirrors.MARKS));
        x.line(false);
        Mirrors.write(x, 12, 5);
        for (int time = 0; time < 2; time++) {
            due.is("alone", 1, x.node(1, Mirrors.ALONE));
            due.is("generation", 2, x.node(1, Mirrors.GENERATION));
            due.is("base", 1, x.node(1, Mirrors.BASE));
            due.is("witness's generation", 2, x.mirror(Mirrors.WITNESS_GENERATION));
            due.is("marks", 64 + 8, x.node(1, Mirrors.MARKS));
            Mirrors.write(x, 15, 6);
        }
        due.is("marks of the other", 0, x.node(0, Mirrors.MARKS));
        due.is("generation of the other", 1, x.node(0, Mirrors.GENERATION));
        due.is("cell of the other", 0, x.block(0, 12, false));
    }

    private static void goesAloneEvenIfCutAtOnce() {
        WitnessedMirror x = Mirrors.withPrimary(0);
        x.stage(2, 5);
        x.line(false);
        due.is("commit cut at 0", -7, x.commit(0, 0));
        due.is("alone", 1, x.node(0, Mirrors.ALONE));
        due.is("generation", 2, x.node(0, Mirrors.GENERATION));
        due.is("marks", 0, x.node(0, Mirrors.MARKS));
    }

    /** A row a cut: what the watched blocks of the crashed node are then. */
    private static void everyCut(int keep, int[][] blocks) {
        for (int cut = 0; cut < 10; cut++) {
            WitnessedMirror x = readyToCommitOne();
            due.is("commit cut at " + cut, -7, x.commit(cut, keep));
            for (int i = 0; i < WATCHED.length; i++) {
                String what = "block " + WATCHED[i] + " cut at " + cut + " with keep " + keep;
                due.is(what, blocks[cut][i], x.block(0, WATCHED[i], true));
                due.is(what, blocks[cut][i], x.block(0, WATCHED[i], false));
            }
            due.is("up", 0, x.node(0, Mirrors.UP));
            due.is("primary", 0, x.node(0, Mirrors.PRIMARY));
            due.is("connected", 0, x.mirror(Mirrors.CONNECTED));
            due.is("batch", 0, x.mirror(Mirrors.BATCH));
            due.is("holder", 0, x.mirror(Mirrors.HOLDER));
        }
    }

    /** A row a cut: what the other node holds, how many of it are cached, and the marks of both. */
    private static void bothDisksGetTheSteps() {
        int[][] rows = {
            {5, 2, 0, 5, 0, 2, 1}, {5, 2, 0, 5, 0, 0, 0}, {5, 0, 0, 5, 0, 1, 64}, {5, 0, 0, 5, 0, 0, 0},
            {5, 0, 9, 5, 0, 1, 64}, {5, 0, 9, 70, 0, 2, 64}, {5, 0, 9, 70, 0, 0, 0}, {5, 1, 9, 70, 0, 1, 64},
            {5, 1, 9, 70, 0, 0, 0}, {5, 1, 9, 70, 70, 1, 4}};
        for (int cut = 0; cut < 10; cut++) {
            WitnessedMirror x = readyToCommitOne();
            x.commit(cut, 0);
            for (int i = 0; i < WATCHED.length; i++) {
                due.is("other's block " + WATCHED[i] + " cut at " + cut, rows[cut][i], x.block(1, WATCHED[i], false));
            }
            due.is("other's cached, cut at " + cut, rows[cut][5], x.node(1, Mirrors.CACHED));
            due.is("other's marks, cut at " + cut, rows[cut][6], x.node(1, Mirrors.MARKS));
            due.is("own marks, cut at " + cut, rows[cut][6], x.node(0, Mirrors.MARKS));
        }
    }

    private static void cutsOutsideTheSteps() {
        int[] outside = {-1, Integer.MIN_VALUE, 10, 11, Integer.MAX_VALUE};
        for (int cut : outside) {
            WitnessedMirror x = readyToCommitOne();
            due.is("commit(" + cut + ")", 0, x.commit(cut, 0));
            due.is("cell 9", 70, x.cell(9));
            due.is("up", 1, x.node(0, Mirrors.UP));
            due.is("batch", 0, x.mirror(Mirrors.BATCH));
        }
        for (int n = 1; n <= 3; n++) {
            WitnessedMirror x = Mirrors.withPrimary(0);
            WitnessedMirror y = Mirrors.withPrimary(0);
            for (int i = 0; i < n; i++) {
                x.stage(i, 1);
                y.stage(i, 1);
            }
            due.is("last cut of " + n, -7, x.commit(3 * n + 6, 0));
            due.is("first cut beyond " + n, 0, y.commit(3 * n + 7, 0));
        }
    }

    private static void wholeBatch() {
        WitnessedMirror x = Mirrors.withPrimary(1);
        x.stage(20, 1);
        x.stage(0, 2);
        x.stage(23, 3);
        due.is("commit", 0, x.commit(-1, 0));
        int[] journal = {3, 20, 1, 0, 2, 23, 3, 0};
        for (int n = 0; n < 2; n++) {
            for (int i = 0; i < journal.length; i++) {
                due.is("journal " + i, journal[i], x.block(n, 24 + i, true));
            }
            due.is("cached", 3, x.node(n, Mirrors.CACHED));
            due.is("cell 23 held", 3, x.block(n, 23, false));
            due.is("cell 23 stable", 0, x.block(n, 23, true));
        }
    }

    private static WitnessedMirror readyToCommitOne() {
        WitnessedMirror x = Mirrors.withPrimary(0);
        x.stage(0, 5);
        x.stage(1, 6);
        x.commit(-1, 0);
        x.stage(9, 70);
        return x;
    }
}
