public final class Promise16BlockTest {
    private static final Due due = new Due("Promise16BlockTest");
    private static final long NONE = -1000000000000L;

    public static void main(String[] args) {
        WitnessedMirror x = Mirrors.withPrimary(0);
        for (int time = 0; time < 2; time++) {
            boolean stable = time == 0;
            due.is("block(-1, 0)", NONE, x.block(-1, 0, stable));
            due.is("block(2, 0)", NONE, x.block(2, 0, stable));
            due.is("block(0, -1)", NONE, x.block(0, -1, stable));
            due.is("block(0, 32)", NONE, x.block(0, 32, stable));
            due.is("block(1, MIN)", NONE, x.block(1, Integer.MIN_VALUE, stable));
            due.is("block(1, MAX)", NONE, x.block(1, Integer.MAX_VALUE, stable));
            due.is("block(1, 31)", 0, x.block(1, 31, stable));
        }
        Mirrors.write(x, 0, Integer.MIN_VALUE);
        due.is("held", Integer.MIN_VALUE, x.block(0, 0, false));
        due.is("stable", 0, x.block(0, 0, true));
        due.is("journal", 1, x.block(1, 24, true));
        Mirrors.write(x, 0, 0);
        due.is("held, a cached 0", 0, x.block(1, 0, false));
        due.is("stable", Integer.MIN_VALUE, x.block(1, 0, true));
        x.crash(1, 0);
        due.is("stable of a node that is down", Integer.MIN_VALUE, x.block(1, 0, true));
        due.is("held of a node that is down", Integer.MIN_VALUE, x.block(1, 0, false));
        due.end();
    }
}
