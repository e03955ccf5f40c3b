public final class Promise09WitnessLineTest {
    private static final Due due = new Due("Promise09WitnessLineTest");

    public static void main(String[] args) {
        WitnessedMirror x = new WitnessedMirror(50);
        due.is("witnessLine(-1)", -1, x.witnessLine(-1, false));
        due.is("witnessLine(2)", -1, x.witnessLine(2, false));
        due.is("witnessLine(1, false)", 0, x.witnessLine(1, false));
        due.is("line of 1", 0, x.node(1, Mirrors.WITNESS_LINE));
        due.is("line of 0", 1, x.node(0, Mirrors.WITNESS_LINE));
        due.is("promote(1)", -1, x.promote(1, false));
        due.is("promote(0)", 0, x.promote(0, false));
        due.is("cut of the primary's", 0, x.witnessLine(0, false));
        due.is("it stays PRIMARY", 1, x.node(0, Mirrors.PRIMARY));
        due.is("connected", 1, x.mirror(Mirrors.CONNECTED));
        due.is("renew", -1, x.renew());
        due.is("witnessLine(0, true)", 0, x.witnessLine(0, true));
        due.is("witnessLine(0, true) again", 0, x.witnessLine(0, true));
        due.is("line of 0", 1, x.node(0, Mirrors.WITNESS_LINE));
        x.crash(1, 0);
        due.is("of a node that is down", 0, x.witnessLine(1, true));
        due.is("line of 1", 1, x.node(1, Mirrors.WITNESS_LINE));
        due.end();
    }
}
