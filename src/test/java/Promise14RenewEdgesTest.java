public final class Promise14RenewEdgesTest extends Edges {
    public static void main(String[] args) {
        refusals();
        renewed();
        end();
    }

    private static void refusals() {
        says("No node is PRIMARY, or its witness line is cut: REFUSED.");
        edge("no PRIMARY in a new object", () -> refused(REFUSED, () -> new WitnessedMirror(50), x -> x.renew()));
        edge("no PRIMARY after demote", () -> refused(REFUSED, () -> {
            WitnessedMirror x = Mirrors.withPrimary(0);
            x.demote(0);
            return x;
        }, x -> x.renew()));
        edge("no PRIMARY after a crash, though a lease is running", () -> refused(REFUSED, () -> {
            WitnessedMirror x = Mirrors.withPrimary(0);
            x.tick(5);
            x.crash(0, 0);
            return x;
        }, x -> x.renew()));
        edge("no PRIMARY after the end of the lease", () -> refused(REFUSED, () -> {
            WitnessedMirror x = Mirrors.withPrimary(0);
            x.tick(50);
            return x;
        }, x -> x.renew()));
        for (int node = 0; node < 2; node++) {
            int primary = node;
            edge("the witness line of PRIMARY " + node + " is cut: the end stays", () -> {
                WitnessedMirror x = Mirrors.withPrimary(primary);
                x.tick(5);
                x.witnessLine(primary, false);
                String before = Mirrors.state(x);
                is("renew", REFUSED, x.renew());
                same("state", before, Mirrors.state(x));
            });
            edge("the other's witness line is cut: PRIMARY " + node + " is not REFUSED", () -> {
                WitnessedMirror x = Mirrors.withPrimary(primary);
                x.tick(5);
                x.witnessLine(1 - primary, false);
                is("renew", 55, x.renew());
            });
        }
    }

    private static void renewed() {
        says("The lease ends at the time plus LENGTH. Answers its end.");
        edge("at the time of the promote: the same end", () -> {
            WitnessedMirror x = Mirrors.withPrimary(0);
            is("renew", 50, x.renew());
            is("end", 50, x.mirror(LEASE_END));
        });
        edge("in the last unit", () -> {
            WitnessedMirror x = Mirrors.withPrimary(0);
            x.tick(49);
            is("renew", 99, x.renew());
            is("end", 99, x.mirror(LEASE_END));
            x.tick(49);
            is("still PRIMARY", 1, x.node(0, PRIMARY));
            x.tick(1);
            is("no more PRIMARY", 0, x.node(0, PRIMARY));
        });
        edge("twice: LENGTH is added to the time, not to the end", () -> {
            WitnessedMirror x = Mirrors.withPrimary(0);
            x.tick(5);
            is("renew", 55, x.renew());
            is("renew", 55, x.renew());
        });
        edge("the holder, the batch and the connection stay", () -> {
            WitnessedMirror x = Mirrors.withBatch(2);
            x.renew();
            is("holder", 0, x.mirror(HOLDER));
            is("batch", 2, x.mirror(BATCH));
            is("connected", 1, x.mirror(CONNECTED));
        });
        edge("not CONNECTED and not ALONE: it does not go ALONE by that", () -> {
            WitnessedMirror x = Mirrors.withPrimary(0);
            x.line(false);
            is("renew", 50, x.renew());
            is("alone", 0, x.node(0, ALONE));
        });
    }
}
