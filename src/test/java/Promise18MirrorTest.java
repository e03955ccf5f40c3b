public final class Promise18MirrorTest {
    private static final Due due = new Due("Promise18MirrorTest");

    public static void main(String[] args) {
        WitnessedMirror x = new WitnessedMirror(20);
        due.is("mirror(-1)", -1, x.mirror(-1));
        due.is("mirror(7)", -1, x.mirror(7));
        due.is("mirror(MIN)", -1, x.mirror(Integer.MIN_VALUE));
        row(x, 1, 2, 1, 2, 0, 0, 1);
        x.tick(5);
        x.promote(1, false);
        x.stage(1, 1);
        row(x, 1, 2, 1, 1, 25, 1, 1);
        x.line(false);
        x.commit(-1, 0);
        row(x, 0, 2, 2, 1, 25, 0, 0);
        x.line(true);
        x.connect();
        row(x, 1, 1, 2, 1, 25, 0, 1);
        x.demote(1);
        row(x, 1, 1, 2, 2, 0, 0, 1);
        x.resync(4);
        x.promote(0, false);
        row(x, 1, 2, 2, 0, 25, 0, 1);
        due.end();
    }

    private static void row(WitnessedMirror x, int... want) {
        for (int what = 0; what < want.length; what++) {
            due.is("mirror(" + what + ")", want[what], x.mirror(what));
        }
    }
}
