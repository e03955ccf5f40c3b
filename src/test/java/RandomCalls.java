import java.util.Random;

/** Calls drawn from a seed, wrong numbers among them; the same seed draws the same calls. */
final class RandomCalls {
    /** How long an object is used, by the document. */
    static final int CALLS = 512;
    /** How many calls can be drawn for an object whose state is told in the end. */
    static final int CALLS_BEFORE_STATE = CALLS - Mirrors.CALLS_OF_STATE;

    private static final String[] NAMES = {"stage", "commit", "crash", "restart", "swap", "line", "witnessLine", "connect",
        "resync", "promote", "demote", "renew", "tick", "cell", "block", "node", "mirror"};
    private static final int[] WEIGHTS = {14, 10, 2, 4, 2, 2, 2, 4, 4, 6, 2, 2, 2, 2, 2, 2, 2};

    private final Random random;
    private int kind;
    private int first;
    private int second;
    private boolean flag;

    RandomCalls(long seed) {
        random = new Random(seed);
    }

    void draw() {
        kind = drawKind();
        first = 0;
        second = 0;
        flag = random.nextInt(3) != 0;
        switch (NAMES[kind]) {
            case "stage":
                first = numberOf(0, 23);
                second = random.nextInt(4) == 0 ? random.nextInt(3) - 1 : random.nextInt();
                break;
            case "commit":
                first = random.nextInt(3) == 0 ? numberOf(0, 16) : -1;
                second = drawKeep();
                break;
            case "crash":
                first = numberOf(0, 1);
                second = drawKeep();
                break;
            case "resync":
                first = numberOf(1, 4);
                break;
            case "tick":
                first = random.nextInt(4) == 0 ? numberOf(0, 100) : random.nextInt(6);
                break;
            case "cell":
                first = numberOf(0, 23);
                break;
            case "mirror":
                first = numberOf(0, 6);
                break;
            case "block":
                first = numberOf(0, 1);
                second = numberOf(0, 31);
                break;
            default:
                first = numberOf(0, 1);
                second = numberOf(0, 7);
        }
    }

    private int drawKind() {
        int all = 0;
        for (int weight : WEIGHTS) {
            all += weight;
        }
        int left = random.nextInt(all);
        int drawn = 0;
        while (left >= WEIGHTS[drawn]) {
            left -= WEIGHTS[drawn];
            drawn++;
        }
        return drawn;
    }

    /** A number of the range, at times one that is just outside it or far away. */
    private int numberOf(int low, int high) {
        switch (random.nextInt(60)) {
            case 0: return low - 1;
            case 1: return high + 1;
            case 2: return Integer.MIN_VALUE;
            case 3: return Integer.MAX_VALUE;
            case 4: return low;
            case 5: return high;
            default: return low + random.nextInt(high - low + 1);
        }
    }

    private int drawKeep() {
        switch (random.nextInt(6)) {
            case 0: return 0;
            case 1: return -1;
            case 2: return 1 << random.nextInt(32);
            default: return random.nextInt();
        }
    }

    long on(WitnessedMirror x) {
        switch (NAMES[kind]) {
            case "stage": return x.stage(first, second);
            case "commit": return x.commit(first, second);
            case "crash": return x.crash(first, second);
            case "restart": return x.restart(first);
            case "swap": return x.swap(first);
            case "line": return x.line(flag);
            case "witnessLine": return x.witnessLine(first, flag);
            case "connect": return x.connect();
            case "resync": return x.resync(first);
            case "promote": return x.promote(first, flag);
            case "demote": return x.demote(first);
            case "renew": return x.renew();
            case "tick": return x.tick(first);
            case "cell": return x.cell(first);
            case "block": return x.block(first, second, flag);
            case "node": return x.node(first, second);
            default: return x.mirror(first);
        }
    }

    long on(LiteralMirror x) {
        switch (NAMES[kind]) {
            case "stage": return x.stage(first, second);
            case "commit": return x.commit(first, second);
            case "crash": return x.crash(first, second);
            case "restart": return x.restart(first);
            case "swap": return x.swap(first);
            case "line": return x.line(flag);
            case "witnessLine": return x.witnessLine(first, flag);
            case "connect": return x.connect();
            case "resync": return x.resync(first);
            case "promote": return x.promote(first, flag);
            case "demote": return x.demote(first);
            case "renew": return x.renew();
            case "tick": return x.tick(first);
            case "cell": return x.cell(first);
            case "block": return x.block(first, second, flag);
            case "node": return x.node(first, second);
            default: return x.mirror(first);
        }
    }

    @Override
    public String toString() {
        return NAMES[kind] + "(" + first + ", " + second + ", " + flag + ")";
    }
}
