public final class Promise15TickEdgesTest extends Edges {
    public static void main(String[] args) {
        numbers();
        leaseRuns();
        leaseEnds();
        end();
    }

    private static void numbers() {
        says("0 .. 100: the time goes on by so much;");
        for (int by : new int[] {MIN, -1, 101, MAX}) {
            edge("tick(" + by + ")", () -> refused(REFUSED, () -> Mirrors.withBatch(2), x -> x.tick(by)));
        }
        edge("tick(0): the time stays", () -> {
            WitnessedMirror x = new WitnessedMirror(50);
            x.tick(7);
            is("tick(0)", 7, x.tick(0));
        });
        edge("tick(100): the longest", () -> {
            WitnessedMirror x = new WitnessedMirror(50);
            x.tick(7);
            is("tick(100)", 107, x.tick(100));
        });
        edge("tick(1)", () -> is("tick(1)", 1, new WitnessedMirror(50).tick(1)));
        says("Answers the time.");
        edge("it adds up, refused ticks left out", () -> {
            WitnessedMirror x = new WitnessedMirror(50);
            x.tick(100);
            x.tick(101);
            x.tick(-1);
            is("tick(23)", 123, x.tick(23));
        });
    }

    private static void leaseRuns() {
        says("if the lease is not running then, there is no holder any more, and a PRIMARY becomes SECONDARY.");
        edge("it is running in its last unit: all stays", () -> {
            WitnessedMirror x = Mirrors.withBatch(2);
            is("tick", 49, x.tick(49));
            is("holder", 0, x.mirror(HOLDER));
            is("end", 50, x.mirror(LEASE_END));
            is("primary", 1, x.node(0, PRIMARY));
            is("batch", 2, x.mirror(BATCH));
        });
        edge("tick(0) as soon as it begins: all stays", () -> {
            WitnessedMirror x = new WitnessedMirror(2);
            x.promote(1, false);
            x.tick(0);
            is("holder", 1, x.mirror(HOLDER));
            is("primary", 1, x.node(1, PRIMARY));
        });
        edge("a crashed holder keeps a lease that is running", () -> {
            WitnessedMirror x = Mirrors.withPrimary(0);
            x.crash(0, 0);
            x.tick(49);
            is("holder", 0, x.mirror(HOLDER));
        });
    }

    private static void leaseEnds() {
        for (int node = 0; node < 2; node++) {
            int primary = node;
            edge("the time is its end, PRIMARY " + node, () -> {
                WitnessedMirror x = Mirrors.withPrimary(primary);
                x.stage(1, 1);
                is("tick", 50, x.tick(50));
                is("holder", NOBODY, x.mirror(HOLDER));
                is("end", 0, x.mirror(LEASE_END));
                is("primary", 0, x.node(primary, PRIMARY));
                is("batch", 0, x.mirror(BATCH));
            });
        }
        edge("the time is above its end", () -> {
            WitnessedMirror x = Mirrors.withPrimary(0);
            x.tick(51);
            is("holder", NOBODY, x.mirror(HOLDER));
            is("primary", 0, x.node(0, PRIMARY));
        });
        edge("the time reaches its end by several ticks", () -> {
            WitnessedMirror x = Mirrors.withPrimary(0);
            x.tick(49);
            is("primary", 1, x.node(0, PRIMARY));
            x.tick(1);
            is("holder", NOBODY, x.mirror(HOLDER));
            is("primary", 0, x.node(0, PRIMARY));
        });
        edge("a crashed holder loses it", () -> {
            WitnessedMirror x = Mirrors.withPrimary(0);
            x.crash(0, 0);
            x.tick(50);
            is("holder", NOBODY, x.mirror(HOLDER));
        });
        edge("there is no holder at all", () -> {
            WitnessedMirror x = new WitnessedMirror(50);
            is("tick", 100, x.tick(100));
            is("holder", NOBODY, x.mirror(HOLDER));
        });
        edge("its end changes nothing else", () -> {
            WitnessedMirror x = Mirrors.syncingNewDisk();
            x.tick(50);
            nodeIs(x, 0, new int[] {1, 0, 2, 1, 1, 255, 1, 1});
            is("connected", 1, x.mirror(CONNECTED));
            is("source", 0, x.mirror(SOURCE));
            is("witness's generation", 2, x.mirror(WITNESS_GENERATION));
        });
    }
}
