/** An object answers as the document says up to its 512th call. */
public final class LastCallEdgesTest extends Edges {
    private static final int LAST = 512;

    public static void main(String[] args) {
        says("An object is used for at most 512 calls after it has been made; what later calls answer is free.");
        edge("the time after 512 of the longest ticks", () -> {
            WitnessedMirror x = new WitnessedMirror(50);
            for (int call = 1; call <= LAST; call++) {
                is("tick " + call, 100 * call, x.tick(100));
            }
        });
        edge("the lease at the latest time that can be", () -> {
            WitnessedMirror x = new WitnessedMirror(50);
            for (int call = 1; call <= LAST - 5; call++) {
                x.tick(100);
            }
            is("promote", 0, x.promote(0, false));
            is("end", 50750, x.mirror(LEASE_END));
            is("tick in the last unit", 50749, x.tick(49));
            is("renew", 50799, x.renew());
            is("tick to the end", 50799, x.tick(50));
        });
        edge("the generation after as many GO ALONE as can be", () -> {
            WitnessedMirror x = new WitnessedMirror(50);
            x.line(false);
            for (int turn = 0; turn < 255; turn++) {
                x.promote(turn % 2, true);
                x.demote(turn % 2);
            }
            is("the 512th call", 256, x.mirror(WITNESS_GENERATION));
        });
        edge("a cell after as many commits as can be", () -> {
            WitnessedMirror x = Mirrors.withPrimary(0);
            for (int turn = 0; turn < 255; turn++) {
                x.stage(turn % 24, turn);
                is("commit " + turn, DONE, x.commit(-1, 0));
            }
            is("the 512th call", 254, x.cell(254 % 24));
        });
        edge("511 refused calls, then one that is not", () -> {
            WitnessedMirror x = new WitnessedMirror(50);
            for (int call = 1; call < LAST; call++) {
                is("stage", REFUSED, x.stage(0, 1));
            }
            is("promote", 0, x.promote(0, false));
        });
        end();
    }
}
