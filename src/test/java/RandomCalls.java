import java.util.Random;

/** Calls drawn from a seed, wrong numbers among them; the same seed draws the same calls. */
final class RandomCalls {
    /** How long an object is used, by the document. */
    static final int CALLS = 512;

    final Random random;
    String call = "";

    RandomCalls(long seed) {
        random = new Random(seed);
    }

    /** Draws a call, does it on x and, if there is one, on the model; answers of both. */
    int[] next(WitnessedMirror x, LiteralMirror model) {
        int[] a = draw();
        boolean flag = a[3] == 1;
        call = a[0] + "(" + a[1] + ", " + a[2] + ", " + flag + ")";
        return new int[] {onMirror(x, a, flag), model == null ? 0 : onModel(model, a, flag)};
    }

    private int[] draw() {
        int kind = random.nextInt(28);
        int node = random.nextInt(20) == 0 ? random.nextInt(7) - 3 : random.nextInt(2);
        int flag = random.nextInt(3) == 0 ? 0 : 1;
        if (kind < 7) {
            return new int[] {0, random.nextInt(26) - 1, random.nextInt(), flag};
        }
        if (kind < 12) {
            int cut = random.nextInt(3) == 0 ? random.nextInt(18) : -1;
            return new int[] {1, cut, random.nextInt(), flag};
        }
        switch (kind) {
            case 12: return new int[] {2, node, random.nextInt(), flag};
            case 13: case 14: return new int[] {3, node, 0, flag};
            case 15: return new int[] {4, node, 0, flag};
            case 16: return new int[] {5, 0, 0, flag};
            case 17: return new int[] {6, node, 0, flag};
            case 18: case 19: return new int[] {7, 0, 0, flag};
            case 20: case 21: return new int[] {8, random.nextInt(7) - 1, 0, flag};
            case 22: case 23: case 24: return new int[] {9, node, 0, flag};
            case 25: return new int[] {10, node, 0, flag};
            case 26: return new int[] {11, 0, 0, flag};
            default: return new int[] {12, random.nextInt(8) == 0 ? random.nextInt(104) - 1 : random.nextInt(6), 0, flag};
        }
    }

    private static int onMirror(WitnessedMirror x, int[] a, boolean flag) {
        switch (a[0]) {
            case 0: return x.stage(a[1], a[2]);
            case 1: return x.commit(a[1], a[2]);
            case 2: return x.crash(a[1], a[2]);
            case 3: return x.restart(a[1]);
            case 4: return x.swap(a[1]);
            case 5: return x.line(flag);
            case 6: return x.witnessLine(a[1], flag);
            case 7: return x.connect();
            case 8: return x.resync(a[1]);
            case 9: return x.promote(a[1], flag);
            case 10: return x.demote(a[1]);
            case 11: return x.renew();
            default: return x.tick(a[1]);
        }
    }

    private static int onModel(LiteralMirror x, int[] a, boolean flag) {
        switch (a[0]) {
            case 0: return x.stage(a[1], a[2]);
            case 1: return x.commit(a[1], a[2]);
            case 2: return x.crash(a[1], a[2]);
            case 3: return x.restart(a[1]);
            case 4: return x.swap(a[1]);
            case 5: return x.line(flag);
            case 6: return x.witnessLine(a[1], flag);
            case 7: return x.connect();
            case 8: return x.resync(a[1]);
            case 9: return x.promote(a[1], flag);
            case 10: return x.demote(a[1]);
            case 11: return x.renew();
            default: return x.tick(a[1]);
        }
    }
}
