public final class Promise16BlockEdgesTest extends Edges {
    public static void main(String[] args) {
        numbers();
        values();
        end();
    }

    private static void numbers() {
        says("out of range answers REFUSED (NONE if the answer is a long)");
        for (boolean stable : new boolean[] {true, false}) {
            for (int node : NO_NODES) {
                edge("block(" + node + ", 0, " + stable + ")",
                    () -> refused(NONE, () -> Mirrors.withBatch(2), x -> x.block(node, 0, stable)));
            }
            for (int block : new int[] {MIN, -1, 32, MAX}) {
                edge("block(0, " + block + ", " + stable + ")",
                    () -> refused(NONE, () -> Mirrors.withBatch(2), x -> x.block(0, block, stable)));
                edge("block(1, " + block + ", " + stable + ")",
                    () -> refused(NONE, () -> Mirrors.withBatch(2), x -> x.block(1, block, stable)));
            }
            for (int node = 0; node < 2; node++) {
                int asked = node;
                edge("the first and the last block of node " + node + ", " + stable, () -> {
                    WitnessedMirror x = Mirrors.withPrimary(0);
                    Mirrors.write(x, 0, 7);
                    Mirrors.write(x, 1, 8);
                    is("block 0", 7, x.block(asked, 0, stable));
                    is("block 31", 0, x.block(asked, 31, stable));
                });
            }
        }
    }

    private static void values() {
        says("The stable value (stable) or what it holds (else) of a block of a node's disk, whether it is up or down.");
        edge("stable and held differ", () -> {
            WitnessedMirror x = Mirrors.withPrimary(0);
            Mirrors.write(x, 3, 7);
            Mirrors.write(x, 3, 8);
            for (int node = 0; node < 2; node++) {
                is("stable", 7, x.block(node, 3, true));
                is("held", 8, x.block(node, 3, false));
            }
        });
        for (int node = 0; node < 2; node++) {
            int asked = node;
            edge("node " + node + " is down", () -> {
                WitnessedMirror x = Mirrors.withPrimary(0);
                Mirrors.write(x, 3, 7);
                x.crash(asked, -1);
                is("stable", 7, x.block(asked, 3, true));
                is("held", 7, x.block(asked, 3, false));
            });
        }
        edge("no node is PRIMARY", () -> {
            WitnessedMirror x = Mirrors.withPrimary(0);
            Mirrors.write(x, 3, 7);
            x.demote(0);
            is("held", 7, x.block(0, 3, false));
        });
        for (int value : new int[] {MIN, -1, MAX}) {
            edge("the value " + value + " is told as it is", () -> {
                WitnessedMirror x = Mirrors.withPrimary(0);
                Mirrors.write(x, 3, value);
                is("held", value, x.block(1, 3, false));
                Mirrors.write(x, 4, 0);
                is("stable", value, x.block(1, 3, true));
            });
        }
    }
}
